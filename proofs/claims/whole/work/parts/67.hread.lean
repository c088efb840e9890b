/-! ===== the hearing's readers ===== -/
def FT (A : Nat → Nat) (P : Nat → Bool) (S : Nat → Nat → Nat → Nat → Nat) (M : Nat → Nat → Nat) (n : Nat) : Nat → Nat → Nat := fun v w => ftN A P S M (2 ^ n - 1) n v w
theorem ft_fc {A : Nat → Nat} {P : Nat → Bool} {S : Nat → Nat → Nat → Nat → Nat} {M : Nat → Nat → Nat} {n v w : Nat} (hp : P w = true) : FT A P S M n v w = fcN S M w v n &&& mayN A v := by
  unfold FT ftN
  rw [if_pos hp, fb_fc n (Nat.le_refl n)]
theorem lf_lv {A : Nat → Nat} {P : Nat → Bool} {S : Nat → Nat → Nat → Nat → Nat} {M : Nat → Nat → Nat} {n : Nat} : lfB A P (FT A P S M n) = lvB A P S M n := funext fun _ => lv_lf.symm
theorem FT_lt {A : Nat → Nat} {P : Nat → Bool} {S : Nat → Nat → Nat → Nat → Nat} {M : Nat → Nat → Nat} {n : Nat} (v w : Nat) : FT A P S M n v w < 16 := ftN_lt A P S M (2 ^ n - 1) n v w
theorem FT_P {A : Nat → Nat} {P : Nat → Bool} {S : Nat → Nat → Nat → Nat → Nat} {M : Nat → Nat → Nat} {n : Nat} : ∀ v w, FT A P S M n v w ≠ 0 → P w = true := fun v w h => by
  cases hp : P w
  · exact absurd (by unfold FT ftN; rw [hp]; rfl) h
  · rfl
theorem cnt_split {p q : Nat → Bool} : ∀ {n}, cntB (fun w => p w && q w) n + cntB (fun w => p w && !q w) n = cntB p n
  | 0 => rfl
  | n + 1 => by
    have := cnt_split (p := p) (q := q) (n := n)
    show cntB _ n + (p n && q n).toNat + (cntB _ n + (p n && !q n).toNat) = cntB p n + (p n).toNat
    cases p n <;> cases q n <;> simp <;> omega
theorem any_cnt {p : Nat → Bool} {n : Nat} : anyB p n = decide (cntB p n ≠ 0) := by
  rw [Bool.eq_iff_iff, decide_eq_true_iff]
  constructor
  · intro h e
    rw [anyB_f.mpr (cntB_0.mp e)] at h
    cases h
  · intro h
    rw [← Bool.not_eq_false]
    exact fun e => h (cntB_0.mpr (anyB_f.mp e))
/-- sure, by counts -/
def crI (A : Nat → Nat) (p : Nat → Bool) (Q : Nat → Bool) : Int32 := sureI (anyB (fun w => p w && Q w) (A 2)) (anyB (fun w => p w && !Q w) (A 2))
theorem cr_e {A : Nat → Nat} {p Q : Nat → Bool} : crI A p Q = if cntB p (A 2) = 0 then m1 else if cntB (fun w => p w && Q w) (A 2) = 0 then bI false else if cntB (fun w => p w && Q w) (A 2) = cntB p (A 2) then bI true else m1 := by
  have h := cnt_split (p := p) (q := Q) (n := A 2)
  unfold crI sureI
  rw [any_cnt, any_cnt]
  by_cases h1 : cntB (fun w => p w && Q w) (A 2) = 0 <;> by_cases h2 : cntB (fun w => p w && !Q w) (A 2) = 0
  · rw [if_pos (by rw [decide_eq_decide]; simp [h1, h2]), if_pos (by omega)]
  · rw [if_neg (by rw [decide_eq_decide]; simp [h1, h2]), if_neg (by omega), if_pos h1, decide_eq_false (fun e => e h1)]
  · rw [if_neg (by rw [decide_eq_decide]; simp [h1, h2]), if_neg (by omega), if_neg h1, if_pos (by omega), decide_eq_true h1]
  · rw [if_pos (by rw [decide_eq_decide]; simp [h1, h2]), if_neg (by omega), if_neg h1, if_neg (by omega)]
theorem some_lv {A : Nat → Nat} {P : Nat → Bool} {S : Nat → Nat → Nat → Nat → Nat} {M : Nat → Nat → Nat} {n : Nat} {p : Nat → Bool} : someB A P (FT A P S M n) p (A 2) = anyB (fun w => lvB A P S M n w && p w) (A 2) := by
  unfold someB
  rw [lf_lv]
theorem wb_congr {A : Nat → Nat} {F G : Nat → Nat → Nat} {s t : Nat → Nat → Bool} {w : Nat} : ∀ {m}, (∀ v, v < m → F v w = G v w) → (∀ v k, v < m → k < 4 → s v k = t v k) → wbF A F s w m = wbF A G t w m
  | 0, _, _ => rfl
  | m + 1, h1, h2 => by
    show wbF A F s w m * kwN A s (F m w) m 4 = wbF A G t w m * kwN A t (G m w) m 4
    rw [wb_congr (fun v hv => h1 v (by omega)) (fun v k hv hk => h2 v k (by omega) hk), h1 m (by omega)]
    refine congrArg (_ * ·) (sumN_congr (fun k hk => ?_))
    rw [h2 m k (by omega) hk]
theorem sel_m1 {x : Int32} {v k : Nat} (hv : v < 2147483648) : selB m1 x v k = true := by
  unfold selB
  rw [decide_eq_false (fun e => nI_pos (n := v) (by omega) (by rw [e]; decide))]
  rfl
theorem wa_m1 {A : Nat → Nat} (hw : WF A) {P : Nat → Bool} {F : Nat → Nat → Nat} {x y : Int32} {qs : Nat → Bool} {n : Nat} : waN A P F (selB m1 x) qs n = waN A P F (selB m1 y) qs n := sumN_congr (fun w _ => by
  have := hw.2.2.1
  have e : wbN A F (selB m1 x) w = wbN A F (selB m1 y) w := wb_congr (fun _ _ => rfl) (fun v k hv _ => by rw [sel_m1 (by omega), sel_m1 (by omega)])
  rw [e])
theorem k_kl52 {h : aH} {c : Nat} (hs : CS h c) {A : Nat → Nat} {P : Nat → Bool} {Q : Nat → Nat → Bool} {S : Nat → Nat → Nat → Nat → Nat} (hc : CC h c A P Q S) (hw : WF A) (hl : LAY h) (hf : h.2.2.2 52 4 = some c) {n d : Nat} {M : Nat → Nat → Nat} (hm : MN h 53 n d M) (mw : MW A n d M) (hr : HR h 52 A P S M n) {v w : Nat} (hv : v < A 4) (h1 : w < A 2) (hp : P w = true) : f_X3_kindsLeft h 52 (nI v) (nI w) = some (nI (FT A P S M n v w)) := by
  rw [ft_fc hp]
  exact k_left52 hs hc hw hl hf hr.2.2.1 hv h1 hp
theorem k_wasPut52 {h : aH} {c : Nat} (hs : CS h c) {A : Nat → Nat} {P : Nat → Bool} {Q : Nat → Nat → Bool} {S : Nat → Nat → Nat → Nat → Nat} (hc : CC h c A P Q S) (hw : WF A) (hl : LAY h) (hf : h.2.2.2 52 4 = some c) {n d : Nat} {M : Nat → Nat → Nat} (hm : MN h 53 n d M) (mw : MW A n d M) (hr : HR h 52 A P S M n) {q : Nat} (hq : q < A 3) : f_X3_wasPut h 52 (nI q) = some (bI (putN M n q)) := by
  obtain ⟨b0, b1, b2l, b2, b3, b4⟩ := wf_b hw
  obtain ⟨mn, md, mk, mi⟩ := mw
  have hv : h.2.1 52 5 = nI (cntB (lvB A P S M n) (A 2)) := hr.1
  have cle := cntB_le (lvB A P S M n) (A 2)
  have hal : ∀ j, j < cntB (lvB A P S M n) (A 2) → h.2.1 59 j = nI (alN (lvB A P S M n) (A 2) j) ∧ alN (lvB A P S M n) (A 2) j < A 2 ∧ lvB A P S M n (alN (lvB A P S M n) (A 2) j) = true := fun j hj => hr_al hr hj
  have aln := al_N (lvB A P S M n) (A 2)
  have hp : h.2.1 52 6 = nI (orN (fun i => 2 ^ M i 1) n) := hr.2.1
  have l := put_lt (M := M) (k := n) (fun i hi => by have := mk i hi; omega)
  have e := put_bit (M := M) (k := n) (q := q)
  simp (disch := first | assumption | omega | decide | ((repeat first | apply lyI | apply lyJ | apply lywI | apply lywJ | apply csI | apply csJ | apply cswI | apply cswJ); assumption)) only [f_X3_wasPut, SH52, LI, ↓li_m1, nI_add, pk_mul, nn_sub, nn_m1, nn_div, nn_rem, nn_nz, nn_mod, nJ_l, lN_add, lN_mul, nn_tb1, nI_bt, nn_and, nn_or, nn_xor, nn_shr, nn_1shl, nn_31, il_p, il_n, it_p, it_n, ie_p, ie_n, ie_b, ie_b1, ie_m, ie_mm, it_m, it_m0, il_m0, bI_rZ, Option.bind_some, bd2_some, Nat.add_zero, Nat.zero_add, if_true, if_false, Bool.false_eq_true, eq_self, hI_R, hJ_R, hp, e]
  cases putN M n q <;> rfl
theorem k_cert52 {h : aH} {c : Nat} (hs : CS h c) {A : Nat → Nat} {P : Nat → Bool} {Q : Nat → Nat → Bool} {S : Nat → Nat → Nat → Nat → Nat} (hc : CC h c A P Q S) (hw : WF A) (hl : LAY h) (hf : h.2.2.2 52 4 = some c) {n d : Nat} {M : Nat → Nat → Nat} (hm : MN h 53 n d M) (mw : MW A n d M) (hr : HR h 52 A P S M n) {q : Nat} (hq : q < A 3) : f_X3_certainty h 52 (nI q) = some (crI A (lvB A P S M n) (Q q)) := by
  obtain ⟨b0, b1, b2l, b2, b3, b4⟩ := wf_b hw
  obtain ⟨mn, md, mk, mi⟩ := mw
  have hv : h.2.1 52 5 = nI (cntB (lvB A P S M n) (A 2)) := hr.1
  have cle := cntB_le (lvB A P S M n) (A 2)
  have hal : ∀ j, j < cntB (lvB A P S M n) (A 2) → h.2.1 59 j = nI (alN (lvB A P S M n) (A 2) j) ∧ alN (lvB A P S M n) (A 2) j < A 2 ∧ lvB A P S M n (alN (lvB A P S M n) (A 2) j) = true := fun j hj => hr_al hr hj
  have aln := al_N (lvB A P S M n) (A 2)
  have e1 : f_X3_certainty_l4 h 52 (nI q) (nI 0) (nI 0) = some (nI (cntB (fun w => lvB A P S M n w && Q q w) (A 2))) := by
    rw [← al_cnt (q := Q q) aln]
    refine for0 (body := fun zz : Int32 × Int32 => f_X3_certainty_b4 h 52 (nI q) zz.1 zz.2) (fun j => (nI (cntB (fun j => Q q (alN (lvB A P S M n) (A 2) j)) j), nI j)) (cntB (lvB A P S M n) (A 2)) (e := nI (cntB (fun j => Q q (alN (lvB A P S M n) (A 2) j)) (cntB (lvB A P S M n) (A 2)))) (rfl) (by omega) (fun j hj => ?_) ?_
    · obtain ⟨a1, a2, a3⟩ := hal j hj
      have r := c_inQ hs hc hw a2 hq
      have cj := cntB_le (fun j => Q q (alN (lvB A P S M n) (A 2) j)) j
      rw [← nI_bt] at r
      simp (disch := first | assumption | omega | decide | ((repeat first | apply lyI | apply lyJ | apply lywI | apply lywJ | apply csI | apply csJ | apply cswI | apply cswJ); assumption)) only [f_X3_certainty_b4, f_X3_certainty_j56, SH52, SC, LI, ↓li_m1, nI_add, pk_mul, nn_sub, nn_m1, nn_div, nn_rem, nn_nz, nn_mod, nJ_l, lN_add, lN_mul, nn_tb1, nn_and, nn_or, nn_xor, nn_shr, nn_1shl, nn_31, il_p, il_n, it_p, it_n, ie_p, ie_n, ie_b, ie_b1, ie_m, ie_mm, it_m, it_m0, il_m0, bI_rZ, Option.bind_some, bd2_some, Nat.add_zero, Nat.zero_add, if_true, if_false, Bool.false_eq_true, eq_self, hI_R, hJ_R, hv, hf, a1, r]
      rfl
    · simp (disch := first | assumption | omega | decide | ((repeat first | apply lyI | apply lyJ | apply lywI | apply lywJ | apply csI | apply csJ | apply cswI | apply cswJ); assumption)) only [f_X3_certainty_b4, f_X3_certainty_j56, SH52, LI, ↓li_m1, nI_add, pk_mul, nn_sub, nn_m1, nn_div, nn_rem, nn_nz, nn_mod, nJ_l, lN_add, lN_mul, nn_tb1, nI_bt, nn_and, nn_or, nn_xor, nn_shr, nn_1shl, nn_31, il_p, il_n, it_p, it_n, ie_p, ie_n, ie_b, ie_b1, ie_m, ie_mm, it_m, it_m0, il_m0, bI_rZ, Option.bind_some, bd2_some, Nat.add_zero, Nat.zero_add, if_true, if_false, Bool.false_eq_true, eq_self, hI_R, hJ_R, hv]
  rw [cr_e]
  have c2 := cntB_le (fun w => lvB A P S M n w && Q q w) (A 2)
  by_cases h1 : cntB (lvB A P S M n) (A 2) = 0
  · simp (disch := first | assumption | omega | decide | ((repeat first | apply lyI | apply lyJ | apply lywI | apply lywJ | apply csI | apply csJ | apply cswI | apply cswJ); assumption)) only [f_X3_certainty, SH52, LI, ↓li_m1, nI_add, pk_mul, nn_sub, nn_m1, nn_div, nn_rem, nn_nz, nn_mod, nJ_l, lN_add, lN_mul, nn_tb1, nI_bt, nn_and, nn_or, nn_xor, nn_shr, nn_1shl, nn_31, il_p, il_n, it_p, it_n, ie_p, ie_n, ie_b, ie_b1, ie_m, ie_mm, it_m, it_m0, il_m0, bI_rZ, Option.bind_some, bd2_some, Nat.add_zero, Nat.zero_add, if_true, if_false, Bool.false_eq_true, eq_self, hI_R, hJ_R, e1, hv, h1]
  · by_cases h2 : cntB (fun w => lvB A P S M n w && Q q w) (A 2) = 0
    · simp (disch := first | assumption | omega | decide | ((repeat first | apply lyI | apply lyJ | apply lywI | apply lywJ | apply csI | apply csJ | apply cswI | apply cswJ); assumption)) only [f_X3_certainty, f_X3_certainty_j56, SH52, LI, ↓li_m1, nI_add, pk_mul, nn_sub, nn_m1, nn_div, nn_rem, nn_nz, nn_mod, nJ_l, lN_add, lN_mul, nn_tb1, nI_bt, nn_and, nn_or, nn_xor, nn_shr, nn_1shl, nn_31, il_p, il_n, it_p, it_n, ie_p, ie_n, ie_b, ie_b1, ie_m, ie_mm, it_m, it_m0, il_m0, bI_rZ, Option.bind_some, bd2_some, Nat.add_zero, Nat.zero_add, if_true, if_false, Bool.false_eq_true, eq_self, hI_R, hJ_R, e1, hv, h1, h2]
      rfl
    · by_cases h3 : cntB (fun w => lvB A P S M n w && Q q w) (A 2) = cntB (lvB A P S M n) (A 2)
      · simp (disch := first | assumption | omega | decide | ((repeat first | apply lyI | apply lyJ | apply lywI | apply lywJ | apply csI | apply csJ | apply cswI | apply cswJ); assumption)) only [f_X3_certainty, f_X3_certainty_j56, SH52, LI, ↓li_m1, nI_add, pk_mul, nn_sub, nn_m1, nn_div, nn_rem, nn_nz, nn_mod, nJ_l, lN_add, lN_mul, nn_tb1, nI_bt, nn_and, nn_or, nn_xor, nn_shr, nn_1shl, nn_31, il_p, il_n, it_p, it_n, ie_p, ie_n, ie_b, ie_b1, ie_m, ie_mm, it_m, it_m0, il_m0, bI_rZ, Option.bind_some, bd2_some, Nat.add_zero, Nat.zero_add, if_true, if_false, Bool.false_eq_true, eq_self, hI_R, hJ_R, e1, hv, h3, h1]
        rfl
      · simp (disch := first | assumption | omega | decide | ((repeat first | apply lyI | apply lyJ | apply lywI | apply lywJ | apply csI | apply csJ | apply cswI | apply cswJ); assumption)) only [f_X3_certainty, f_X3_certainty_j56, SH52, LI, ↓li_m1, nI_add, pk_mul, nn_sub, nn_m1, nn_div, nn_rem, nn_nz, nn_mod, nJ_l, lN_add, lN_mul, nn_tb1, nI_bt, nn_and, nn_or, nn_xor, nn_shr, nn_1shl, nn_31, il_p, il_n, it_p, it_n, ie_p, ie_n, ie_b, ie_b1, ie_m, ie_mm, it_m, it_m0, il_m0, bI_rZ, Option.bind_some, bd2_some, Nat.add_zero, Nat.zero_add, if_true, if_false, Bool.false_eq_true, eq_self, hI_R, hJ_R, e1, hv, h3, h1, h2]
theorem k_weightOf52 {h : aH} {c : Nat} (hs : CS h c) {A : Nat → Nat} {P : Nat → Bool} {Q : Nat → Nat → Bool} {S : Nat → Nat → Nat → Nat → Nat} (hc : CC h c A P Q S) (hw : WF A) (hl : LAY h) (hf : h.2.2.2 52 4 = some c) {n d : Nat} {M : Nat → Nat → Nat} (hm : MN h 53 n d M) (mw : MW A n d M) (hr : HR h 52 A P S M n) {w : Nat} (h1 : w < A 2) (hp : P w = true) (wi ki : Int32) : f_X3_weightOf h 52 (nI w) wi ki = some (lN (wbN A (FT A P S M n) (selB wi ki) w)) := by
  obtain ⟨b0, b1, b2l, b2, b3, b4⟩ := wf_b hw
  obtain ⟨mn, md, mk, mi⟩ := mw
  have hv : h.2.1 52 5 = nI (cntB (lvB A P S M n) (A 2)) := hr.1
  have cle := cntB_le (lvB A P S M n) (A 2)
  have hal : ∀ j, j < cntB (lvB A P S M n) (A 2) → h.2.1 59 j = nI (alN (lvB A P S M n) (A 2) j) ∧ alN (lvB A P S M n) (A 2) j < A 2 ∧ lvB A P S M n (alN (lvB A P S M n) (A 2) j) = true := fun j hj => hr_al hr hj
  have aln := al_N (lvB A P S M n) (A 2)
  have ew := (hc.2.2.2.1 w h1).1
  rw [hp, if_pos rfl] at ew
  have wl := wtN_le hw (w := w)
  have e4 := hc.1.2.2.2.2.2.1
  have e1 : ∀ v x, v < A 4 → f_X3_weightOf_l42 h 52 (nI w) wi ki x (nI v) (nI (FT A P S M n v w)) (nI 0) (nI 0) = some (nI (kwN A (selB wi ki) (FT A P S M n v w) v 4)) := fun v x hv => by
    have q := FT_lt (A := A) (P := P) (S := S) (M := M) (n := n) v w
    refine for0 (body := fun zz : Int32 × Int32 => f_X3_weightOf_b42 h 52 (nI w) wi ki x (nI v) (nI (FT A P S M n v w)) zz.1 zz.2) (fun j => (nI (kwN A (selB wi ki) (FT A P S M n v w) v j), nI j)) (4) (e := nI (kwN A (selB wi ki) (FT A P S M n v w) v 4)) (rfl) (by omega) (fun j hj => ?_) ?_
    · have e := (hc.2.2.2.2.2.1 v hv).1 j hj
      simp (disch := first | assumption | omega | decide | ((repeat first | apply lyI | apply lyJ | apply lywI | apply lywJ | apply csI | apply csJ | apply cswI | apply cswJ); assumption)) only [f_X3_weightOf_b42, f_X3_weightOf_j90, f_X3_weightOf_j70, SH52, SC, LI, ↓li_m1, nI_add, pk_mul, nn_sub, nn_m1, nn_div, nn_rem, nn_nz, nn_mod, nJ_l, lN_add, lN_mul, nn_tb1, nI_bt, nn_and, nn_or, nn_xor, nn_shr, nn_1shl, nn_31, il_p, il_n, it_p, it_n, ie_p, ie_n, ie_b, ie_b1, ie_m, ie_mm, it_m, it_m0, il_m0, bI_rZ, Option.bind_some, bd2_some, Nat.add_zero, Nat.zero_add, if_true, if_false, Bool.false_eq_true, eq_self, hI_R, hJ_R, hf, e, kwN, sumN, selB]
      cases (FT A P S M n v w).testBit j <;> by_cases hx : nI v = wi <;> by_cases hy : nI j = ki <;> simp [hx, hy, nI_add]
    · simp (disch := first | assumption | omega | decide | ((repeat first | apply lyI | apply lyJ | apply lywI | apply lywJ | apply csI | apply csJ | apply cswI | apply cswJ); assumption)) only [f_X3_weightOf_b42, f_X3_weightOf_j90, f_X3_weightOf_j70, SH52, LI, ↓li_m1, nI_add, pk_mul, nn_sub, nn_m1, nn_div, nn_rem, nn_nz, nn_mod, nJ_l, lN_add, lN_mul, nn_tb1, nI_bt, nn_and, nn_or, nn_xor, nn_shr, nn_1shl, nn_31, il_p, il_n, it_p, it_n, ie_p, ie_n, ie_b, ie_b1, ie_m, ie_mm, it_m, it_m0, il_m0, bI_rZ, Option.bind_some, bd2_some, Nat.add_zero, Nat.zero_add, if_true, if_false, Bool.false_eq_true, eq_self, hI_R, hJ_R]
  have e2 : f_X3_weightOf_l15 h 52 (nI w) wi ki (lN (wtN A w)) (nI 0) = some (lN (wbN A (FT A P S M n) (selB wi ki) w)) := by
    refine for0 (body := fun zz : Int64 × Int32 => f_X3_weightOf_b15 h 52 (nI w) wi ki zz.1 zz.2) (fun j => (lN (wbF A (FT A P S M n) (selB wi ki) w j), nI j)) (A 4) (e := lN (wbN A (FT A P S M n) (selB wi ki) w)) (rfl) (by omega) (fun j hj => ?_) ?_
    · have q := kwN_le hw (sel := selB wi ki) (x := FT A P S M n j w) hj 4 (by decide)
      have r := k_kl52 hs hc hw hl hf hm ⟨mn, md, mk, mi⟩ hr hj h1 hp
      simp (disch := first | assumption | omega | decide | ((repeat first | apply lyI | apply lyJ | apply lywI | apply lywJ | apply csI | apply csJ | apply cswI | apply cswJ); assumption)) only [f_X3_weightOf_b15, f_X3_weightOf_j90, f_X3_weightOf_j70, SH52, SC, LI, ↓li_m1, nI_add, pk_mul, nn_sub, nn_m1, nn_div, nn_rem, nn_nz, nn_mod, nJ_l, lN_add, lN_mul, nn_tb1, nI_bt, nn_and, nn_or, nn_xor, nn_shr, nn_1shl, nn_31, il_p, il_n, it_p, it_n, ie_p, ie_n, ie_b, ie_b1, ie_m, ie_mm, it_m, it_m0, il_m0, bI_rZ, Option.bind_some, bd2_some, Nat.add_zero, Nat.zero_add, if_true, if_false, Bool.false_eq_true, eq_self, hI_R, hJ_R, hf, e4, r, e1, wbF]
    · simp (disch := first | assumption | omega | decide | ((repeat first | apply lyI | apply lyJ | apply lywI | apply lywJ | apply csI | apply csJ | apply cswI | apply cswJ); assumption)) only [f_X3_weightOf_b15, f_X3_weightOf_j90, f_X3_weightOf_j70, SH52, SC, LI, ↓li_m1, nI_add, pk_mul, nn_sub, nn_m1, nn_div, nn_rem, nn_nz, nn_mod, nJ_l, lN_add, lN_mul, nn_tb1, nI_bt, nn_and, nn_or, nn_xor, nn_shr, nn_1shl, nn_31, il_p, il_n, it_p, it_n, ie_p, ie_n, ie_b, ie_b1, ie_m, ie_mm, it_m, it_m0, il_m0, bI_rZ, Option.bind_some, bd2_some, Nat.add_zero, Nat.zero_add, if_true, if_false, Bool.false_eq_true, eq_self, hI_R, hJ_R, hf, e4]
      rfl
  simp (disch := first | assumption | omega | decide | ((repeat first | apply lyI | apply lyJ | apply lywI | apply lywJ | apply csI | apply csJ | apply cswI | apply cswJ); assumption)) only [f_X3_weightOf, SH52, SC, LI, ↓li_m1, nI_add, pk_mul, nn_sub, nn_m1, nn_div, nn_rem, nn_nz, nn_mod, nJ_l, lN_add, lN_mul, nn_tb1, nI_bt, nn_and, nn_or, nn_xor, nn_shr, nn_1shl, nn_31, il_p, il_n, it_p, it_n, ie_p, ie_n, ie_b, ie_b1, ie_m, ie_mm, it_m, it_m0, il_m0, bI_rZ, Option.bind_some, bd2_some, Nat.add_zero, Nat.zero_add, if_true, if_false, Bool.false_eq_true, eq_self, hI_R, hJ_R, hf, ew, e2]
theorem k_weightWith52 {h : aH} {c : Nat} (hs : CS h c) {A : Nat → Nat} {P : Nat → Bool} {Q : Nat → Nat → Bool} {S : Nat → Nat → Nat → Nat → Nat} (hc : CC h c A P Q S) (hw : WF A) (hl : LAY h) (hf : h.2.2.2 52 4 = some c) {n d : Nat} {M : Nat → Nat → Nat} (hm : MN h 53 n d M) (mw : MW A n d M) (hr : HR h 52 A P S M n) (wi ki : Int32) : f_X3_weightWith h 52 wi ki = some (lN (waN A P (FT A P S M n) (selB wi ki) (fun _ => true) (A 2))) := by
  obtain ⟨b0, b1, b2l, b2, b3, b4⟩ := wf_b hw
  obtain ⟨mn, md, mk, mi⟩ := mw
  have hv : h.2.1 52 5 = nI (cntB (lvB A P S M n) (A 2)) := hr.1
  have cle := cntB_le (lvB A P S M n) (A 2)
  have hal : ∀ j, j < cntB (lvB A P S M n) (A 2) → h.2.1 59 j = nI (alN (lvB A P S M n) (A 2) j) ∧ alN (lvB A P S M n) (A 2) j < A 2 ∧ lvB A P S M n (alN (lvB A P S M n) (A 2) j) = true := fun j hj => hr_al hr hj
  have aln := al_N (lvB A P S M n) (A 2)
  have e0 : waN A P (FT A P S M n) (selB wi ki) (fun _ => true) (A 2) = sumN (fun j => wbN A (FT A P S M n) (selB wi ki) (alN (lvB A P S M n) (A 2) j)) (cntB (lvB A P S M n) (A 2)) := by
    rw [al_sum aln]
    unfold waN
    rw [lf_lv]
    exact sumN_congr (fun w _ => by rw [Bool.and_true])
  rw [e0]
  have e1 : f_X3_weightWith_l5 h 52 wi ki (lN 0) (nI 0) = some (lN (sumN (fun j => wbN A (FT A P S M n) (selB wi ki) (alN (lvB A P S M n) (A 2) j)) (cntB (lvB A P S M n) (A 2)))) := by
    refine for0 (body := fun zz : Int64 × Int32 => f_X3_weightWith_b5 h 52 wi ki zz.1 zz.2) (fun j => (lN (sumN (fun j => wbN A (FT A P S M n) (selB wi ki) (alN (lvB A P S M n) (A 2) j)) j), nI j)) (cntB (lvB A P S M n) (A 2)) (e := lN (sumN (fun j => wbN A (FT A P S M n) (selB wi ki) (alN (lvB A P S M n) (A 2) j)) (cntB (lvB A P S M n) (A 2)))) (rfl) (by omega) (fun j hj => ?_) ?_
    · obtain ⟨a1, a2, a3⟩ := hal j hj
      have r := k_weightOf52 hs hc hw hl hf hm ⟨mn, md, mk, mi⟩ hr a2 (lv_P a3) wi ki
      simp (disch := first | assumption | omega | decide | ((repeat first | apply lyI | apply lyJ | apply lywI | apply lywJ | apply csI | apply csJ | apply cswI | apply cswJ); assumption)) only [f_X3_weightWith_b5, SH52, LI, ↓li_m1, nI_add, pk_mul, nn_sub, nn_m1, nn_div, nn_rem, nn_nz, nn_mod, nJ_l, lN_add, lN_mul, nn_tb1, nI_bt, nn_and, nn_or, nn_xor, nn_shr, nn_1shl, nn_31, il_p, il_n, it_p, it_n, ie_p, ie_n, ie_b, ie_b1, ie_m, ie_mm, it_m, it_m0, il_m0, bI_rZ, Option.bind_some, bd2_some, Nat.add_zero, Nat.zero_add, if_true, if_false, Bool.false_eq_true, eq_self, hI_R, hJ_R, hv, a1, r, sumN]
    · simp (disch := first | assumption | omega | decide | ((repeat first | apply lyI | apply lyJ | apply lywI | apply lywJ | apply csI | apply csJ | apply cswI | apply cswJ); assumption)) only [f_X3_weightWith_b5, SH52, LI, ↓li_m1, nI_add, pk_mul, nn_sub, nn_m1, nn_div, nn_rem, nn_nz, nn_mod, nJ_l, lN_add, lN_mul, nn_tb1, nI_bt, nn_and, nn_or, nn_xor, nn_shr, nn_1shl, nn_31, il_p, il_n, it_p, it_n, ie_p, ie_n, ie_b, ie_b1, ie_m, ie_mm, it_m, it_m0, il_m0, bI_rZ, Option.bind_some, bd2_some, Nat.add_zero, Nat.zero_add, if_true, if_false, Bool.false_eq_true, eq_self, hI_R, hJ_R, hv]
  simp (disch := first | assumption | omega | decide | ((repeat first | apply lyI | apply lyJ | apply lywI | apply lywJ | apply csI | apply csJ | apply cswI | apply cswJ); assumption)) only [f_X3_weightWith, SH52, LI, ↓li_m1, nI_add, pk_mul, nn_sub, nn_m1, nn_div, nn_rem, nn_nz, nn_mod, nJ_l, lN_add, lN_mul, nn_tb1, nI_bt, nn_and, nn_or, nn_xor, nn_shr, nn_1shl, nn_31, il_p, il_n, it_p, it_n, ie_p, ie_n, ie_b, ie_b1, ie_m, ie_mm, it_m, it_m0, il_m0, bI_rZ, Option.bind_some, bd2_some, Nat.add_zero, Nat.zero_add, if_true, if_false, Bool.false_eq_true, eq_self, hI_R, hJ_R, LJ, e1]
theorem k_weightIn52 {h : aH} {c : Nat} (hs : CS h c) {A : Nat → Nat} {P : Nat → Bool} {Q : Nat → Nat → Bool} {S : Nat → Nat → Nat → Nat → Nat} (hc : CC h c A P Q S) (hw : WF A) (hl : LAY h) (hf : h.2.2.2 52 4 = some c) {n d : Nat} {M : Nat → Nat → Nat} (hm : MN h 53 n d M) (mw : MW A n d M) (hr : HR h 52 A P S M n) {q : Nat} (hq : q < A 3) : f_X3_weightIn h 52 (nI q) = some (lN (waN A P (FT A P S M n) (selB m1 m1) (Q q) (A 2))) := by
  obtain ⟨b0, b1, b2l, b2, b3, b4⟩ := wf_b hw
  obtain ⟨mn, md, mk, mi⟩ := mw
  have hv : h.2.1 52 5 = nI (cntB (lvB A P S M n) (A 2)) := hr.1
  have cle := cntB_le (lvB A P S M n) (A 2)
  have hal : ∀ j, j < cntB (lvB A P S M n) (A 2) → h.2.1 59 j = nI (alN (lvB A P S M n) (A 2) j) ∧ alN (lvB A P S M n) (A 2) j < A 2 ∧ lvB A P S M n (alN (lvB A P S M n) (A 2) j) = true := fun j hj => hr_al hr hj
  have aln := al_N (lvB A P S M n) (A 2)
  have e0 : waN A P (FT A P S M n) (selB m1 m1) (Q q) (A 2) = sumN (fun j => (fun w => if Q q w = true then wbN A (FT A P S M n) (selB m1 m1) w else 0) (alN (lvB A P S M n) (A 2) j)) (cntB (lvB A P S M n) (A 2)) := by
    rw [al_sum (f := fun w => if Q q w = true then wbN A (FT A P S M n) (selB m1 m1) w else 0) aln]
    unfold waN
    rw [lf_lv]
    exact sumN_congr (fun w _ => by cases lvB A P S M n w <;> cases Q q w <;> rfl)
  rw [e0]
  have e1 : f_X3_weightIn_l5 h 52 (nI q) (lN 0) (nI 0) = some (lN (sumN (fun j => (fun w => if Q q w = true then wbN A (FT A P S M n) (selB m1 m1) w else 0) (alN (lvB A P S M n) (A 2) j)) (cntB (lvB A P S M n) (A 2)))) := by
    refine for0 (body := fun zz : Int64 × Int32 => f_X3_weightIn_b5 h 52 (nI q) zz.1 zz.2) (fun j => (lN (sumN (fun j => (fun w => if Q q w = true then wbN A (FT A P S M n) (selB m1 m1) w else 0) (alN (lvB A P S M n) (A 2) j)) j), nI j)) (cntB (lvB A P S M n) (A 2)) (e := lN (sumN (fun j => (fun w => if Q q w = true then wbN A (FT A P S M n) (selB m1 m1) w else 0) (alN (lvB A P S M n) (A 2) j)) (cntB (lvB A P S M n) (A 2)))) (rfl) (by omega) (fun j hj => ?_) ?_
    · obtain ⟨a1, a2, a3⟩ := hal j hj
      have r := k_weightOf52 hs hc hw hl hf hm ⟨mn, md, mk, mi⟩ hr a2 (lv_P a3) m1 m1
      have r2 := c_inQ hs hc hw a2 hq
      simp (disch := first | assumption | omega | decide | ((repeat first | apply lyI | apply lyJ | apply lywI | apply lywJ | apply csI | apply csJ | apply cswI | apply cswJ); assumption)) only [f_X3_weightIn_b5, f_X3_weightIn_j49, SH52, SC, LI, ↓li_m1, nI_add, pk_mul, nn_sub, nn_m1, nn_div, nn_rem, nn_nz, nn_mod, nJ_l, lN_add, lN_mul, nn_tb1, nI_bt, nn_and, nn_or, nn_xor, nn_shr, nn_1shl, nn_31, il_p, il_n, it_p, it_n, ie_p, ie_n, ie_b, ie_b1, ie_m, ie_mm, it_m, it_m0, il_m0, bI_rZ, Option.bind_some, bd2_some, Nat.add_zero, Nat.zero_add, if_true, if_false, Bool.false_eq_true, eq_self, hI_R, hJ_R, hv, hf, a1, r, r2, sumN]
      cases Q q (alN (lvB A P S M n) (A 2) j) <;> rfl
    · simp (disch := first | assumption | omega | decide | ((repeat first | apply lyI | apply lyJ | apply lywI | apply lywJ | apply csI | apply csJ | apply cswI | apply cswJ); assumption)) only [f_X3_weightIn_b5, f_X3_weightIn_j49, SH52, LI, ↓li_m1, nI_add, pk_mul, nn_sub, nn_m1, nn_div, nn_rem, nn_nz, nn_mod, nJ_l, lN_add, lN_mul, nn_tb1, nI_bt, nn_and, nn_or, nn_xor, nn_shr, nn_1shl, nn_31, il_p, il_n, it_p, it_n, ie_p, ie_n, ie_b, ie_b1, ie_m, ie_mm, it_m, it_m0, il_m0, bI_rZ, Option.bind_some, bd2_some, Nat.add_zero, Nat.zero_add, if_true, if_false, Bool.false_eq_true, eq_self, hI_R, hJ_R, hv]
  simp (disch := first | assumption | omega | decide | ((repeat first | apply lyI | apply lyJ | apply lywI | apply lywJ | apply csI | apply csJ | apply cswI | apply cswJ); assumption)) only [f_X3_weightIn, SH52, LI, ↓li_m1, nI_add, pk_mul, nn_sub, nn_m1, nn_div, nn_rem, nn_nz, nn_mod, nJ_l, lN_add, lN_mul, nn_tb1, nI_bt, nn_and, nn_or, nn_xor, nn_shr, nn_1shl, nn_31, il_p, il_n, it_p, it_n, ie_p, ie_n, ie_b, ie_b1, ie_m, ie_mm, it_m, it_m0, il_m0, bI_rZ, Option.bind_some, bd2_some, Nat.add_zero, Nat.zero_add, if_true, if_false, Bool.false_eq_true, eq_self, hI_R, hJ_R, LJ, e1]
theorem k_costs52 {h : aH} {c : Nat} (hs : CS h c) {A : Nat → Nat} {P : Nat → Bool} {Q : Nat → Nat → Bool} {S : Nat → Nat → Nat → Nat → Nat} (hc : CC h c A P Q S) (hw : WF A) (hl : LAY h) (hf : h.2.2.2 52 4 = some c) {n d : Nat} {M : Nat → Nat → Nat} (hm : MN h 53 n d M) (mw : MW A n d M) (hr : HR h 52 A P S M n) : f_X3_costs h 52 = some (nI (feN A M n)) := by
  obtain ⟨b0, b1, b2l, b2, b3, b4⟩ := wf_b hw
  obtain ⟨mn, md, mk, mi⟩ := mw
  have hv : h.2.1 52 5 = nI (cntB (lvB A P S M n) (A 2)) := hr.1
  have cle := cntB_le (lvB A P S M n) (A 2)
  have hal : ∀ j, j < cntB (lvB A P S M n) (A 2) → h.2.1 59 j = nI (alN (lvB A P S M n) (A 2) j) ∧ alN (lvB A P S M n) (A 2) j < A 2 ∧ lvB A P S M n (alN (lvB A P S M n) (A 2) j) = true := fun j hj => hr_al hr hj
  have aln := al_N (lvB A P S M n) (A 2)
  have m4 : h.2.1 53 4 = nI n := hm.1
  have e1 : f_X3_costs_l4 h 52 (nI 0) (nI 0) = some (nI (feN A M n)) := by
    refine for0 (body := fun zz : Int32 × Int32 => f_X3_costs_b4 h 52 zz.1 zz.2) (fun j => (nI (feN A M j), nI j)) (n) (e := nI (feN A M n)) (rfl) (by omega) (fun j hj => ?_) ?_
    · obtain ⟨g0, g1, g2, g3⟩ := hm.2.2 j hj
      have g1' : h.2.1 55 j = nI (M j 1) := g1
      have g2' : h.2.1 56 j = nI (M j 2) := g2
      have q := mk j hj
      have e3 := hc.2.2.2.2.1 (M j 1) q.2.1
      have e4 := hc.2.2.2.2.1 (M j 2 / 2) (by omega)
      have h1 : M j 2 >>> 1 = M j 2 / 2 := by rw [Nat.shiftRight_eq_div_pow]
      simp (disch := first | assumption | omega | decide | ((repeat first | apply lyI | apply lyJ | apply lywI | apply lywJ | apply csI | apply csJ | apply cswI | apply cswJ); assumption)) only [f_X3_costs_b4, SH52, SC, LI, ↓li_m1, nI_add, pk_mul, nn_sub, nn_m1, nn_div, nn_rem, nn_nz, nn_mod, nJ_l, lN_add, lN_mul, nn_tb1, nI_bt, nn_and, nn_or, nn_xor, nn_shr, nn_1shl, nn_31, il_p, il_n, it_p, it_n, ie_p, ie_n, ie_b, ie_b1, ie_m, ie_mm, it_m, it_m0, il_m0, bI_rZ, Option.bind_some, bd2_some, Nat.add_zero, Nat.zero_add, if_true, if_false, Bool.false_eq_true, eq_self, hI_R, hJ_R, m4, hf, g1', g2', h1, e3, e4, nn_a1]
      unfold feN
      refine congrArg (fun x => some (Sum.inl (nI x, nI (j + 1)))) ?_
      show _ = _ + (A (64 + M j 1) + A (64 + M j 2 / 2) * (1 + M j 2 % 2))
      rw [Nat.add_comm 1 (M j 2 % 2), Nat.mul_comm (A (64 + M j 2 / 2))]
    · simp (disch := first | assumption | omega | decide | ((repeat first | apply lyI | apply lyJ | apply lywI | apply lywJ | apply csI | apply csJ | apply cswI | apply cswJ); assumption)) only [f_X3_costs_b4, SH52, LI, ↓li_m1, nI_add, pk_mul, nn_sub, nn_m1, nn_div, nn_rem, nn_nz, nn_mod, nJ_l, lN_add, lN_mul, nn_tb1, nI_bt, nn_and, nn_or, nn_xor, nn_shr, nn_1shl, nn_31, il_p, il_n, it_p, it_n, ie_p, ie_n, ie_b, ie_b1, ie_m, ie_mm, it_m, it_m0, il_m0, bI_rZ, Option.bind_some, bd2_some, Nat.add_zero, Nat.zero_add, if_true, if_false, Bool.false_eq_true, eq_self, hI_R, hJ_R, m4]
  simp (disch := first | assumption | omega | decide | ((repeat first | apply lyI | apply lyJ | apply lywI | apply lywJ | apply csI | apply csJ | apply cswI | apply cswJ); assumption)) only [f_X3_costs, SH52, LI, ↓li_m1, nI_add, pk_mul, nn_sub, nn_m1, nn_div, nn_rem, nn_nz, nn_mod, nJ_l, lN_add, lN_mul, nn_tb1, nI_bt, nn_and, nn_or, nn_xor, nn_shr, nn_1shl, nn_31, il_p, il_n, it_p, it_n, ie_p, ie_n, ie_b, ie_b1, ie_m, ie_mm, it_m, it_m0, il_m0, bI_rZ, Option.bind_some, bd2_some, Nat.add_zero, Nat.zero_add, if_true, if_false, Bool.false_eq_true, eq_self, hI_R, hJ_R, e1]
theorem k_today52 {h : aH} {c : Nat} (hs : CS h c) {A : Nat → Nat} {P : Nat → Bool} {Q : Nat → Nat → Bool} {S : Nat → Nat → Nat → Nat → Nat} (hc : CC h c A P Q S) (hw : WF A) (hl : LAY h) (hf : h.2.2.2 52 4 = some c) {n d : Nat} {M : Nat → Nat → Nat} (hm : MN h 53 n d M) (mw : MW A n d M) (hr : HR h 52 A P S M n) : f_X6_putToday h 53 = some (nI (cntB (fun k => M k 3 == d) n)) := by
  obtain ⟨b0, b1, b2l, b2, b3, b4⟩ := wf_b hw
  obtain ⟨mn, md, mk, mi⟩ := mw
  have hv : h.2.1 52 5 = nI (cntB (lvB A P S M n) (A 2)) := hr.1
  have cle := cntB_le (lvB A P S M n) (A 2)
  have hal : ∀ j, j < cntB (lvB A P S M n) (A 2) → h.2.1 59 j = nI (alN (lvB A P S M n) (A 2) j) ∧ alN (lvB A P S M n) (A 2) j < A 2 ∧ lvB A P S M n (alN (lvB A P S M n) (A 2) j) = true := fun j hj => hr_al hr hj
  have aln := al_N (lvB A P S M n) (A 2)
  have m4 : h.2.1 53 4 = nI n := hm.1
  have m5 : h.2.1 53 5 = nI d := hm.2.1
  have e1 : f_X6_putToday_l4 h 53 (nI 0) (nI 0) = some (nI (cntB (fun k => M k 3 == d) n)) := by
    refine for0 (body := fun zz : Int32 × Int32 => f_X6_putToday_b4 h 53 zz.1 zz.2) (fun j => (nI (cntB (fun k => M k 3 == d) j), nI j)) (n) (e := nI (cntB (fun k => M k 3 == d) n)) (rfl) (by omega) (fun j hj => ?_) ?_
    · have g3 : h.2.1 57 j = nI (M j 3) := (hm.2.2 j hj).2.2.2
      have q := mk j hj
      by_cases hx : M j 3 = d
      · simp (disch := first | assumption | omega | decide | ((repeat first | apply lyI | apply lyJ | apply lywI | apply lywJ | apply csI | apply csJ | apply cswI | apply cswJ); assumption)) only [f_X6_putToday_b4, f_X6_putToday_j28, SH52, LI, ↓li_m1, nI_add, pk_mul, nn_sub, nn_m1, nn_div, nn_rem, nn_nz, nn_mod, nJ_l, lN_add, lN_mul, nn_tb1, nI_bt, nn_and, nn_or, nn_xor, nn_shr, nn_1shl, nn_31, il_p, il_n, it_p, it_n, ie_p, ie_n, ie_b, ie_b1, ie_m, ie_mm, it_m, it_m0, il_m0, bI_rZ, Option.bind_some, bd2_some, Nat.add_zero, Nat.zero_add, if_true, if_false, Bool.false_eq_true, eq_self, hI_R, hJ_R, m4, m5, g3]
        simp [cntB, hx]
      · simp (disch := first | assumption | omega | decide | ((repeat first | apply lyI | apply lyJ | apply lywI | apply lywJ | apply csI | apply csJ | apply cswI | apply cswJ); assumption)) only [f_X6_putToday_b4, f_X6_putToday_j28, SH52, LI, ↓li_m1, nI_add, pk_mul, nn_sub, nn_m1, nn_div, nn_rem, nn_nz, nn_mod, nJ_l, lN_add, lN_mul, nn_tb1, nI_bt, nn_and, nn_or, nn_xor, nn_shr, nn_1shl, nn_31, il_p, il_n, it_p, it_n, ie_p, ie_n, ie_b, ie_b1, ie_m, ie_mm, it_m, it_m0, il_m0, bI_rZ, Option.bind_some, bd2_some, Nat.add_zero, Nat.zero_add, if_true, if_false, Bool.false_eq_true, eq_self, hI_R, hJ_R, m4, m5, g3]
        simp only [cntB, beq_eq_false_iff_ne.mpr hx]
        rfl
    · simp (disch := first | assumption | omega | decide | ((repeat first | apply lyI | apply lyJ | apply lywI | apply lywJ | apply csI | apply csJ | apply cswI | apply cswJ); assumption)) only [f_X6_putToday_b4, f_X6_putToday_j28, SH52, LI, ↓li_m1, nI_add, pk_mul, nn_sub, nn_m1, nn_div, nn_rem, nn_nz, nn_mod, nJ_l, lN_add, lN_mul, nn_tb1, nI_bt, nn_and, nn_or, nn_xor, nn_shr, nn_1shl, nn_31, il_p, il_n, it_p, it_n, ie_p, ie_n, ie_b, ie_b1, ie_m, ie_mm, it_m, it_m0, il_m0, bI_rZ, Option.bind_some, bd2_some, Nat.add_zero, Nat.zero_add, if_true, if_false, Bool.false_eq_true, eq_self, hI_R, hJ_R, m4]
  simp (disch := first | assumption | omega | decide | ((repeat first | apply lyI | apply lyJ | apply lywI | apply lywJ | apply csI | apply csJ | apply cswI | apply cswJ); assumption)) only [f_X6_putToday, SH52, LI, ↓li_m1, nI_add, pk_mul, nn_sub, nn_m1, nn_div, nn_rem, nn_nz, nn_mod, nJ_l, lN_add, lN_mul, nn_tb1, nI_bt, nn_and, nn_or, nn_xor, nn_shr, nn_1shl, nn_31, il_p, il_n, it_p, it_n, ie_p, ie_n, ie_b, ie_b1, ie_m, ie_mm, it_m, it_m0, il_m0, bI_rZ, Option.bind_some, bd2_some, Nat.add_zero, Nat.zero_add, if_true, if_false, Bool.false_eq_true, eq_self, hI_R, hJ_R, e1]
theorem k_kl68 {h : aH} {c : Nat} (hs : CS h c) {A : Nat → Nat} {P : Nat → Bool} {Q : Nat → Nat → Bool} {S : Nat → Nat → Nat → Nat → Nat} (hc : CC h c A P Q S) (hw : WF A) (hl : LAY h) (hf : h.2.2.2 68 4 = some c) {n d : Nat} {M : Nat → Nat → Nat} (hm : MN h 69 n d M) (mw : MW A n d M) (hr : HR h 68 A P S M n) {v w : Nat} (hv : v < A 4) (h1 : w < A 2) (hp : P w = true) : f_X3_kindsLeft h 68 (nI v) (nI w) = some (nI (FT A P S M n v w)) := by
  rw [ft_fc hp]
  exact k_left68 hs hc hw hl hf hr.2.2.1 hv h1 hp
theorem k_wasPut68 {h : aH} {c : Nat} (hs : CS h c) {A : Nat → Nat} {P : Nat → Bool} {Q : Nat → Nat → Bool} {S : Nat → Nat → Nat → Nat → Nat} (hc : CC h c A P Q S) (hw : WF A) (hl : LAY h) (hf : h.2.2.2 68 4 = some c) {n d : Nat} {M : Nat → Nat → Nat} (hm : MN h 69 n d M) (mw : MW A n d M) (hr : HR h 68 A P S M n) {q : Nat} (hq : q < A 3) : f_X3_wasPut h 68 (nI q) = some (bI (putN M n q)) := by
  obtain ⟨b0, b1, b2l, b2, b3, b4⟩ := wf_b hw
  obtain ⟨mn, md, mk, mi⟩ := mw
  have hv : h.2.1 68 5 = nI (cntB (lvB A P S M n) (A 2)) := hr.1
  have cle := cntB_le (lvB A P S M n) (A 2)
  have hal : ∀ j, j < cntB (lvB A P S M n) (A 2) → h.2.1 75 j = nI (alN (lvB A P S M n) (A 2) j) ∧ alN (lvB A P S M n) (A 2) j < A 2 ∧ lvB A P S M n (alN (lvB A P S M n) (A 2) j) = true := fun j hj => hr_al hr hj
  have aln := al_N (lvB A P S M n) (A 2)
  have hp : h.2.1 68 6 = nI (orN (fun i => 2 ^ M i 1) n) := hr.2.1
  have l := put_lt (M := M) (k := n) (fun i hi => by have := mk i hi; omega)
  have e := put_bit (M := M) (k := n) (q := q)
  simp (disch := first | assumption | omega | decide | ((repeat first | apply lyI | apply lyJ | apply lywI | apply lywJ | apply csI | apply csJ | apply cswI | apply cswJ); assumption)) only [f_X3_wasPut, SH68, LI, ↓li_m1, nI_add, pk_mul, nn_sub, nn_m1, nn_div, nn_rem, nn_nz, nn_mod, nJ_l, lN_add, lN_mul, nn_tb1, nI_bt, nn_and, nn_or, nn_xor, nn_shr, nn_1shl, nn_31, il_p, il_n, it_p, it_n, ie_p, ie_n, ie_b, ie_b1, ie_m, ie_mm, it_m, it_m0, il_m0, bI_rZ, Option.bind_some, bd2_some, Nat.add_zero, Nat.zero_add, if_true, if_false, Bool.false_eq_true, eq_self, hI_R, hJ_R, hp, e]
  cases putN M n q <;> rfl
theorem k_cert68 {h : aH} {c : Nat} (hs : CS h c) {A : Nat → Nat} {P : Nat → Bool} {Q : Nat → Nat → Bool} {S : Nat → Nat → Nat → Nat → Nat} (hc : CC h c A P Q S) (hw : WF A) (hl : LAY h) (hf : h.2.2.2 68 4 = some c) {n d : Nat} {M : Nat → Nat → Nat} (hm : MN h 69 n d M) (mw : MW A n d M) (hr : HR h 68 A P S M n) {q : Nat} (hq : q < A 3) : f_X3_certainty h 68 (nI q) = some (crI A (lvB A P S M n) (Q q)) := by
  obtain ⟨b0, b1, b2l, b2, b3, b4⟩ := wf_b hw
  obtain ⟨mn, md, mk, mi⟩ := mw
  have hv : h.2.1 68 5 = nI (cntB (lvB A P S M n) (A 2)) := hr.1
  have cle := cntB_le (lvB A P S M n) (A 2)
  have hal : ∀ j, j < cntB (lvB A P S M n) (A 2) → h.2.1 75 j = nI (alN (lvB A P S M n) (A 2) j) ∧ alN (lvB A P S M n) (A 2) j < A 2 ∧ lvB A P S M n (alN (lvB A P S M n) (A 2) j) = true := fun j hj => hr_al hr hj
  have aln := al_N (lvB A P S M n) (A 2)
  have e1 : f_X3_certainty_l4 h 68 (nI q) (nI 0) (nI 0) = some (nI (cntB (fun w => lvB A P S M n w && Q q w) (A 2))) := by
    rw [← al_cnt (q := Q q) aln]
    refine for0 (body := fun zz : Int32 × Int32 => f_X3_certainty_b4 h 68 (nI q) zz.1 zz.2) (fun j => (nI (cntB (fun j => Q q (alN (lvB A P S M n) (A 2) j)) j), nI j)) (cntB (lvB A P S M n) (A 2)) (e := nI (cntB (fun j => Q q (alN (lvB A P S M n) (A 2) j)) (cntB (lvB A P S M n) (A 2)))) (rfl) (by omega) (fun j hj => ?_) ?_
    · obtain ⟨a1, a2, a3⟩ := hal j hj
      have r := c_inQ hs hc hw a2 hq
      have cj := cntB_le (fun j => Q q (alN (lvB A P S M n) (A 2) j)) j
      rw [← nI_bt] at r
      simp (disch := first | assumption | omega | decide | ((repeat first | apply lyI | apply lyJ | apply lywI | apply lywJ | apply csI | apply csJ | apply cswI | apply cswJ); assumption)) only [f_X3_certainty_b4, f_X3_certainty_j56, SH68, SC, LI, ↓li_m1, nI_add, pk_mul, nn_sub, nn_m1, nn_div, nn_rem, nn_nz, nn_mod, nJ_l, lN_add, lN_mul, nn_tb1, nn_and, nn_or, nn_xor, nn_shr, nn_1shl, nn_31, il_p, il_n, it_p, it_n, ie_p, ie_n, ie_b, ie_b1, ie_m, ie_mm, it_m, it_m0, il_m0, bI_rZ, Option.bind_some, bd2_some, Nat.add_zero, Nat.zero_add, if_true, if_false, Bool.false_eq_true, eq_self, hI_R, hJ_R, hv, hf, a1, r]
      rfl
    · simp (disch := first | assumption | omega | decide | ((repeat first | apply lyI | apply lyJ | apply lywI | apply lywJ | apply csI | apply csJ | apply cswI | apply cswJ); assumption)) only [f_X3_certainty_b4, f_X3_certainty_j56, SH68, LI, ↓li_m1, nI_add, pk_mul, nn_sub, nn_m1, nn_div, nn_rem, nn_nz, nn_mod, nJ_l, lN_add, lN_mul, nn_tb1, nI_bt, nn_and, nn_or, nn_xor, nn_shr, nn_1shl, nn_31, il_p, il_n, it_p, it_n, ie_p, ie_n, ie_b, ie_b1, ie_m, ie_mm, it_m, it_m0, il_m0, bI_rZ, Option.bind_some, bd2_some, Nat.add_zero, Nat.zero_add, if_true, if_false, Bool.false_eq_true, eq_self, hI_R, hJ_R, hv]
  rw [cr_e]
  have c2 := cntB_le (fun w => lvB A P S M n w && Q q w) (A 2)
  by_cases h1 : cntB (lvB A P S M n) (A 2) = 0
  · simp (disch := first | assumption | omega | decide | ((repeat first | apply lyI | apply lyJ | apply lywI | apply lywJ | apply csI | apply csJ | apply cswI | apply cswJ); assumption)) only [f_X3_certainty, SH68, LI, ↓li_m1, nI_add, pk_mul, nn_sub, nn_m1, nn_div, nn_rem, nn_nz, nn_mod, nJ_l, lN_add, lN_mul, nn_tb1, nI_bt, nn_and, nn_or, nn_xor, nn_shr, nn_1shl, nn_31, il_p, il_n, it_p, it_n, ie_p, ie_n, ie_b, ie_b1, ie_m, ie_mm, it_m, it_m0, il_m0, bI_rZ, Option.bind_some, bd2_some, Nat.add_zero, Nat.zero_add, if_true, if_false, Bool.false_eq_true, eq_self, hI_R, hJ_R, e1, hv, h1]
  · by_cases h2 : cntB (fun w => lvB A P S M n w && Q q w) (A 2) = 0
    · simp (disch := first | assumption | omega | decide | ((repeat first | apply lyI | apply lyJ | apply lywI | apply lywJ | apply csI | apply csJ | apply cswI | apply cswJ); assumption)) only [f_X3_certainty, f_X3_certainty_j56, SH68, LI, ↓li_m1, nI_add, pk_mul, nn_sub, nn_m1, nn_div, nn_rem, nn_nz, nn_mod, nJ_l, lN_add, lN_mul, nn_tb1, nI_bt, nn_and, nn_or, nn_xor, nn_shr, nn_1shl, nn_31, il_p, il_n, it_p, it_n, ie_p, ie_n, ie_b, ie_b1, ie_m, ie_mm, it_m, it_m0, il_m0, bI_rZ, Option.bind_some, bd2_some, Nat.add_zero, Nat.zero_add, if_true, if_false, Bool.false_eq_true, eq_self, hI_R, hJ_R, e1, hv, h1, h2]
      rfl
    · by_cases h3 : cntB (fun w => lvB A P S M n w && Q q w) (A 2) = cntB (lvB A P S M n) (A 2)
      · simp (disch := first | assumption | omega | decide | ((repeat first | apply lyI | apply lyJ | apply lywI | apply lywJ | apply csI | apply csJ | apply cswI | apply cswJ); assumption)) only [f_X3_certainty, f_X3_certainty_j56, SH68, LI, ↓li_m1, nI_add, pk_mul, nn_sub, nn_m1, nn_div, nn_rem, nn_nz, nn_mod, nJ_l, lN_add, lN_mul, nn_tb1, nI_bt, nn_and, nn_or, nn_xor, nn_shr, nn_1shl, nn_31, il_p, il_n, it_p, it_n, ie_p, ie_n, ie_b, ie_b1, ie_m, ie_mm, it_m, it_m0, il_m0, bI_rZ, Option.bind_some, bd2_some, Nat.add_zero, Nat.zero_add, if_true, if_false, Bool.false_eq_true, eq_self, hI_R, hJ_R, e1, hv, h3, h1]
        rfl
      · simp (disch := first | assumption | omega | decide | ((repeat first | apply lyI | apply lyJ | apply lywI | apply lywJ | apply csI | apply csJ | apply cswI | apply cswJ); assumption)) only [f_X3_certainty, f_X3_certainty_j56, SH68, LI, ↓li_m1, nI_add, pk_mul, nn_sub, nn_m1, nn_div, nn_rem, nn_nz, nn_mod, nJ_l, lN_add, lN_mul, nn_tb1, nI_bt, nn_and, nn_or, nn_xor, nn_shr, nn_1shl, nn_31, il_p, il_n, it_p, it_n, ie_p, ie_n, ie_b, ie_b1, ie_m, ie_mm, it_m, it_m0, il_m0, bI_rZ, Option.bind_some, bd2_some, Nat.add_zero, Nat.zero_add, if_true, if_false, Bool.false_eq_true, eq_self, hI_R, hJ_R, e1, hv, h3, h1, h2]
theorem k_weightOf68 {h : aH} {c : Nat} (hs : CS h c) {A : Nat → Nat} {P : Nat → Bool} {Q : Nat → Nat → Bool} {S : Nat → Nat → Nat → Nat → Nat} (hc : CC h c A P Q S) (hw : WF A) (hl : LAY h) (hf : h.2.2.2 68 4 = some c) {n d : Nat} {M : Nat → Nat → Nat} (hm : MN h 69 n d M) (mw : MW A n d M) (hr : HR h 68 A P S M n) {w : Nat} (h1 : w < A 2) (hp : P w = true) (wi ki : Int32) : f_X3_weightOf h 68 (nI w) wi ki = some (lN (wbN A (FT A P S M n) (selB wi ki) w)) := by
  obtain ⟨b0, b1, b2l, b2, b3, b4⟩ := wf_b hw
  obtain ⟨mn, md, mk, mi⟩ := mw
  have hv : h.2.1 68 5 = nI (cntB (lvB A P S M n) (A 2)) := hr.1
  have cle := cntB_le (lvB A P S M n) (A 2)
  have hal : ∀ j, j < cntB (lvB A P S M n) (A 2) → h.2.1 75 j = nI (alN (lvB A P S M n) (A 2) j) ∧ alN (lvB A P S M n) (A 2) j < A 2 ∧ lvB A P S M n (alN (lvB A P S M n) (A 2) j) = true := fun j hj => hr_al hr hj
  have aln := al_N (lvB A P S M n) (A 2)
  have ew := (hc.2.2.2.1 w h1).1
  rw [hp, if_pos rfl] at ew
  have wl := wtN_le hw (w := w)
  have e4 := hc.1.2.2.2.2.2.1
  have e1 : ∀ v x, v < A 4 → f_X3_weightOf_l42 h 68 (nI w) wi ki x (nI v) (nI (FT A P S M n v w)) (nI 0) (nI 0) = some (nI (kwN A (selB wi ki) (FT A P S M n v w) v 4)) := fun v x hv => by
    have q := FT_lt (A := A) (P := P) (S := S) (M := M) (n := n) v w
    refine for0 (body := fun zz : Int32 × Int32 => f_X3_weightOf_b42 h 68 (nI w) wi ki x (nI v) (nI (FT A P S M n v w)) zz.1 zz.2) (fun j => (nI (kwN A (selB wi ki) (FT A P S M n v w) v j), nI j)) (4) (e := nI (kwN A (selB wi ki) (FT A P S M n v w) v 4)) (rfl) (by omega) (fun j hj => ?_) ?_
    · have e := (hc.2.2.2.2.2.1 v hv).1 j hj
      simp (disch := first | assumption | omega | decide | ((repeat first | apply lyI | apply lyJ | apply lywI | apply lywJ | apply csI | apply csJ | apply cswI | apply cswJ); assumption)) only [f_X3_weightOf_b42, f_X3_weightOf_j90, f_X3_weightOf_j70, SH68, SC, LI, ↓li_m1, nI_add, pk_mul, nn_sub, nn_m1, nn_div, nn_rem, nn_nz, nn_mod, nJ_l, lN_add, lN_mul, nn_tb1, nI_bt, nn_and, nn_or, nn_xor, nn_shr, nn_1shl, nn_31, il_p, il_n, it_p, it_n, ie_p, ie_n, ie_b, ie_b1, ie_m, ie_mm, it_m, it_m0, il_m0, bI_rZ, Option.bind_some, bd2_some, Nat.add_zero, Nat.zero_add, if_true, if_false, Bool.false_eq_true, eq_self, hI_R, hJ_R, hf, e, kwN, sumN, selB]
      cases (FT A P S M n v w).testBit j <;> by_cases hx : nI v = wi <;> by_cases hy : nI j = ki <;> simp [hx, hy, nI_add]
    · simp (disch := first | assumption | omega | decide | ((repeat first | apply lyI | apply lyJ | apply lywI | apply lywJ | apply csI | apply csJ | apply cswI | apply cswJ); assumption)) only [f_X3_weightOf_b42, f_X3_weightOf_j90, f_X3_weightOf_j70, SH68, LI, ↓li_m1, nI_add, pk_mul, nn_sub, nn_m1, nn_div, nn_rem, nn_nz, nn_mod, nJ_l, lN_add, lN_mul, nn_tb1, nI_bt, nn_and, nn_or, nn_xor, nn_shr, nn_1shl, nn_31, il_p, il_n, it_p, it_n, ie_p, ie_n, ie_b, ie_b1, ie_m, ie_mm, it_m, it_m0, il_m0, bI_rZ, Option.bind_some, bd2_some, Nat.add_zero, Nat.zero_add, if_true, if_false, Bool.false_eq_true, eq_self, hI_R, hJ_R]
  have e2 : f_X3_weightOf_l15 h 68 (nI w) wi ki (lN (wtN A w)) (nI 0) = some (lN (wbN A (FT A P S M n) (selB wi ki) w)) := by
    refine for0 (body := fun zz : Int64 × Int32 => f_X3_weightOf_b15 h 68 (nI w) wi ki zz.1 zz.2) (fun j => (lN (wbF A (FT A P S M n) (selB wi ki) w j), nI j)) (A 4) (e := lN (wbN A (FT A P S M n) (selB wi ki) w)) (rfl) (by omega) (fun j hj => ?_) ?_
    · have q := kwN_le hw (sel := selB wi ki) (x := FT A P S M n j w) hj 4 (by decide)
      have r := k_kl68 hs hc hw hl hf hm ⟨mn, md, mk, mi⟩ hr hj h1 hp
      simp (disch := first | assumption | omega | decide | ((repeat first | apply lyI | apply lyJ | apply lywI | apply lywJ | apply csI | apply csJ | apply cswI | apply cswJ); assumption)) only [f_X3_weightOf_b15, f_X3_weightOf_j90, f_X3_weightOf_j70, SH68, SC, LI, ↓li_m1, nI_add, pk_mul, nn_sub, nn_m1, nn_div, nn_rem, nn_nz, nn_mod, nJ_l, lN_add, lN_mul, nn_tb1, nI_bt, nn_and, nn_or, nn_xor, nn_shr, nn_1shl, nn_31, il_p, il_n, it_p, it_n, ie_p, ie_n, ie_b, ie_b1, ie_m, ie_mm, it_m, it_m0, il_m0, bI_rZ, Option.bind_some, bd2_some, Nat.add_zero, Nat.zero_add, if_true, if_false, Bool.false_eq_true, eq_self, hI_R, hJ_R, hf, e4, r, e1, wbF]
    · simp (disch := first | assumption | omega | decide | ((repeat first | apply lyI | apply lyJ | apply lywI | apply lywJ | apply csI | apply csJ | apply cswI | apply cswJ); assumption)) only [f_X3_weightOf_b15, f_X3_weightOf_j90, f_X3_weightOf_j70, SH68, SC, LI, ↓li_m1, nI_add, pk_mul, nn_sub, nn_m1, nn_div, nn_rem, nn_nz, nn_mod, nJ_l, lN_add, lN_mul, nn_tb1, nI_bt, nn_and, nn_or, nn_xor, nn_shr, nn_1shl, nn_31, il_p, il_n, it_p, it_n, ie_p, ie_n, ie_b, ie_b1, ie_m, ie_mm, it_m, it_m0, il_m0, bI_rZ, Option.bind_some, bd2_some, Nat.add_zero, Nat.zero_add, if_true, if_false, Bool.false_eq_true, eq_self, hI_R, hJ_R, hf, e4]
      rfl
  simp (disch := first | assumption | omega | decide | ((repeat first | apply lyI | apply lyJ | apply lywI | apply lywJ | apply csI | apply csJ | apply cswI | apply cswJ); assumption)) only [f_X3_weightOf, SH68, SC, LI, ↓li_m1, nI_add, pk_mul, nn_sub, nn_m1, nn_div, nn_rem, nn_nz, nn_mod, nJ_l, lN_add, lN_mul, nn_tb1, nI_bt, nn_and, nn_or, nn_xor, nn_shr, nn_1shl, nn_31, il_p, il_n, it_p, it_n, ie_p, ie_n, ie_b, ie_b1, ie_m, ie_mm, it_m, it_m0, il_m0, bI_rZ, Option.bind_some, bd2_some, Nat.add_zero, Nat.zero_add, if_true, if_false, Bool.false_eq_true, eq_self, hI_R, hJ_R, hf, ew, e2]
theorem k_weightWith68 {h : aH} {c : Nat} (hs : CS h c) {A : Nat → Nat} {P : Nat → Bool} {Q : Nat → Nat → Bool} {S : Nat → Nat → Nat → Nat → Nat} (hc : CC h c A P Q S) (hw : WF A) (hl : LAY h) (hf : h.2.2.2 68 4 = some c) {n d : Nat} {M : Nat → Nat → Nat} (hm : MN h 69 n d M) (mw : MW A n d M) (hr : HR h 68 A P S M n) (wi ki : Int32) : f_X3_weightWith h 68 wi ki = some (lN (waN A P (FT A P S M n) (selB wi ki) (fun _ => true) (A 2))) := by
  obtain ⟨b0, b1, b2l, b2, b3, b4⟩ := wf_b hw
  obtain ⟨mn, md, mk, mi⟩ := mw
  have hv : h.2.1 68 5 = nI (cntB (lvB A P S M n) (A 2)) := hr.1
  have cle := cntB_le (lvB A P S M n) (A 2)
  have hal : ∀ j, j < cntB (lvB A P S M n) (A 2) → h.2.1 75 j = nI (alN (lvB A P S M n) (A 2) j) ∧ alN (lvB A P S M n) (A 2) j < A 2 ∧ lvB A P S M n (alN (lvB A P S M n) (A 2) j) = true := fun j hj => hr_al hr hj
  have aln := al_N (lvB A P S M n) (A 2)
  have e0 : waN A P (FT A P S M n) (selB wi ki) (fun _ => true) (A 2) = sumN (fun j => wbN A (FT A P S M n) (selB wi ki) (alN (lvB A P S M n) (A 2) j)) (cntB (lvB A P S M n) (A 2)) := by
    rw [al_sum aln]
    unfold waN
    rw [lf_lv]
    exact sumN_congr (fun w _ => by rw [Bool.and_true])
  rw [e0]
  have e1 : f_X3_weightWith_l5 h 68 wi ki (lN 0) (nI 0) = some (lN (sumN (fun j => wbN A (FT A P S M n) (selB wi ki) (alN (lvB A P S M n) (A 2) j)) (cntB (lvB A P S M n) (A 2)))) := by
    refine for0 (body := fun zz : Int64 × Int32 => f_X3_weightWith_b5 h 68 wi ki zz.1 zz.2) (fun j => (lN (sumN (fun j => wbN A (FT A P S M n) (selB wi ki) (alN (lvB A P S M n) (A 2) j)) j), nI j)) (cntB (lvB A P S M n) (A 2)) (e := lN (sumN (fun j => wbN A (FT A P S M n) (selB wi ki) (alN (lvB A P S M n) (A 2) j)) (cntB (lvB A P S M n) (A 2)))) (rfl) (by omega) (fun j hj => ?_) ?_
    · obtain ⟨a1, a2, a3⟩ := hal j hj
      have r := k_weightOf68 hs hc hw hl hf hm ⟨mn, md, mk, mi⟩ hr a2 (lv_P a3) wi ki
      simp (disch := first | assumption | omega | decide | ((repeat first | apply lyI | apply lyJ | apply lywI | apply lywJ | apply csI | apply csJ | apply cswI | apply cswJ); assumption)) only [f_X3_weightWith_b5, SH68, LI, ↓li_m1, nI_add, pk_mul, nn_sub, nn_m1, nn_div, nn_rem, nn_nz, nn_mod, nJ_l, lN_add, lN_mul, nn_tb1, nI_bt, nn_and, nn_or, nn_xor, nn_shr, nn_1shl, nn_31, il_p, il_n, it_p, it_n, ie_p, ie_n, ie_b, ie_b1, ie_m, ie_mm, it_m, it_m0, il_m0, bI_rZ, Option.bind_some, bd2_some, Nat.add_zero, Nat.zero_add, if_true, if_false, Bool.false_eq_true, eq_self, hI_R, hJ_R, hv, a1, r, sumN]
    · simp (disch := first | assumption | omega | decide | ((repeat first | apply lyI | apply lyJ | apply lywI | apply lywJ | apply csI | apply csJ | apply cswI | apply cswJ); assumption)) only [f_X3_weightWith_b5, SH68, LI, ↓li_m1, nI_add, pk_mul, nn_sub, nn_m1, nn_div, nn_rem, nn_nz, nn_mod, nJ_l, lN_add, lN_mul, nn_tb1, nI_bt, nn_and, nn_or, nn_xor, nn_shr, nn_1shl, nn_31, il_p, il_n, it_p, it_n, ie_p, ie_n, ie_b, ie_b1, ie_m, ie_mm, it_m, it_m0, il_m0, bI_rZ, Option.bind_some, bd2_some, Nat.add_zero, Nat.zero_add, if_true, if_false, Bool.false_eq_true, eq_self, hI_R, hJ_R, hv]
  simp (disch := first | assumption | omega | decide | ((repeat first | apply lyI | apply lyJ | apply lywI | apply lywJ | apply csI | apply csJ | apply cswI | apply cswJ); assumption)) only [f_X3_weightWith, SH68, LI, ↓li_m1, nI_add, pk_mul, nn_sub, nn_m1, nn_div, nn_rem, nn_nz, nn_mod, nJ_l, lN_add, lN_mul, nn_tb1, nI_bt, nn_and, nn_or, nn_xor, nn_shr, nn_1shl, nn_31, il_p, il_n, it_p, it_n, ie_p, ie_n, ie_b, ie_b1, ie_m, ie_mm, it_m, it_m0, il_m0, bI_rZ, Option.bind_some, bd2_some, Nat.add_zero, Nat.zero_add, if_true, if_false, Bool.false_eq_true, eq_self, hI_R, hJ_R, LJ, e1]
theorem k_weightIn68 {h : aH} {c : Nat} (hs : CS h c) {A : Nat → Nat} {P : Nat → Bool} {Q : Nat → Nat → Bool} {S : Nat → Nat → Nat → Nat → Nat} (hc : CC h c A P Q S) (hw : WF A) (hl : LAY h) (hf : h.2.2.2 68 4 = some c) {n d : Nat} {M : Nat → Nat → Nat} (hm : MN h 69 n d M) (mw : MW A n d M) (hr : HR h 68 A P S M n) {q : Nat} (hq : q < A 3) : f_X3_weightIn h 68 (nI q) = some (lN (waN A P (FT A P S M n) (selB m1 m1) (Q q) (A 2))) := by
  obtain ⟨b0, b1, b2l, b2, b3, b4⟩ := wf_b hw
  obtain ⟨mn, md, mk, mi⟩ := mw
  have hv : h.2.1 68 5 = nI (cntB (lvB A P S M n) (A 2)) := hr.1
  have cle := cntB_le (lvB A P S M n) (A 2)
  have hal : ∀ j, j < cntB (lvB A P S M n) (A 2) → h.2.1 75 j = nI (alN (lvB A P S M n) (A 2) j) ∧ alN (lvB A P S M n) (A 2) j < A 2 ∧ lvB A P S M n (alN (lvB A P S M n) (A 2) j) = true := fun j hj => hr_al hr hj
  have aln := al_N (lvB A P S M n) (A 2)
  have e0 : waN A P (FT A P S M n) (selB m1 m1) (Q q) (A 2) = sumN (fun j => (fun w => if Q q w = true then wbN A (FT A P S M n) (selB m1 m1) w else 0) (alN (lvB A P S M n) (A 2) j)) (cntB (lvB A P S M n) (A 2)) := by
    rw [al_sum (f := fun w => if Q q w = true then wbN A (FT A P S M n) (selB m1 m1) w else 0) aln]
    unfold waN
    rw [lf_lv]
    exact sumN_congr (fun w _ => by cases lvB A P S M n w <;> cases Q q w <;> rfl)
  rw [e0]
  have e1 : f_X3_weightIn_l5 h 68 (nI q) (lN 0) (nI 0) = some (lN (sumN (fun j => (fun w => if Q q w = true then wbN A (FT A P S M n) (selB m1 m1) w else 0) (alN (lvB A P S M n) (A 2) j)) (cntB (lvB A P S M n) (A 2)))) := by
    refine for0 (body := fun zz : Int64 × Int32 => f_X3_weightIn_b5 h 68 (nI q) zz.1 zz.2) (fun j => (lN (sumN (fun j => (fun w => if Q q w = true then wbN A (FT A P S M n) (selB m1 m1) w else 0) (alN (lvB A P S M n) (A 2) j)) j), nI j)) (cntB (lvB A P S M n) (A 2)) (e := lN (sumN (fun j => (fun w => if Q q w = true then wbN A (FT A P S M n) (selB m1 m1) w else 0) (alN (lvB A P S M n) (A 2) j)) (cntB (lvB A P S M n) (A 2)))) (rfl) (by omega) (fun j hj => ?_) ?_
    · obtain ⟨a1, a2, a3⟩ := hal j hj
      have r := k_weightOf68 hs hc hw hl hf hm ⟨mn, md, mk, mi⟩ hr a2 (lv_P a3) m1 m1
      have r2 := c_inQ hs hc hw a2 hq
      simp (disch := first | assumption | omega | decide | ((repeat first | apply lyI | apply lyJ | apply lywI | apply lywJ | apply csI | apply csJ | apply cswI | apply cswJ); assumption)) only [f_X3_weightIn_b5, f_X3_weightIn_j49, SH68, SC, LI, ↓li_m1, nI_add, pk_mul, nn_sub, nn_m1, nn_div, nn_rem, nn_nz, nn_mod, nJ_l, lN_add, lN_mul, nn_tb1, nI_bt, nn_and, nn_or, nn_xor, nn_shr, nn_1shl, nn_31, il_p, il_n, it_p, it_n, ie_p, ie_n, ie_b, ie_b1, ie_m, ie_mm, it_m, it_m0, il_m0, bI_rZ, Option.bind_some, bd2_some, Nat.add_zero, Nat.zero_add, if_true, if_false, Bool.false_eq_true, eq_self, hI_R, hJ_R, hv, hf, a1, r, r2, sumN]
      cases Q q (alN (lvB A P S M n) (A 2) j) <;> rfl
    · simp (disch := first | assumption | omega | decide | ((repeat first | apply lyI | apply lyJ | apply lywI | apply lywJ | apply csI | apply csJ | apply cswI | apply cswJ); assumption)) only [f_X3_weightIn_b5, f_X3_weightIn_j49, SH68, LI, ↓li_m1, nI_add, pk_mul, nn_sub, nn_m1, nn_div, nn_rem, nn_nz, nn_mod, nJ_l, lN_add, lN_mul, nn_tb1, nI_bt, nn_and, nn_or, nn_xor, nn_shr, nn_1shl, nn_31, il_p, il_n, it_p, it_n, ie_p, ie_n, ie_b, ie_b1, ie_m, ie_mm, it_m, it_m0, il_m0, bI_rZ, Option.bind_some, bd2_some, Nat.add_zero, Nat.zero_add, if_true, if_false, Bool.false_eq_true, eq_self, hI_R, hJ_R, hv]
  simp (disch := first | assumption | omega | decide | ((repeat first | apply lyI | apply lyJ | apply lywI | apply lywJ | apply csI | apply csJ | apply cswI | apply cswJ); assumption)) only [f_X3_weightIn, SH68, LI, ↓li_m1, nI_add, pk_mul, nn_sub, nn_m1, nn_div, nn_rem, nn_nz, nn_mod, nJ_l, lN_add, lN_mul, nn_tb1, nI_bt, nn_and, nn_or, nn_xor, nn_shr, nn_1shl, nn_31, il_p, il_n, it_p, it_n, ie_p, ie_n, ie_b, ie_b1, ie_m, ie_mm, it_m, it_m0, il_m0, bI_rZ, Option.bind_some, bd2_some, Nat.add_zero, Nat.zero_add, if_true, if_false, Bool.false_eq_true, eq_self, hI_R, hJ_R, LJ, e1]
theorem k_costs68 {h : aH} {c : Nat} (hs : CS h c) {A : Nat → Nat} {P : Nat → Bool} {Q : Nat → Nat → Bool} {S : Nat → Nat → Nat → Nat → Nat} (hc : CC h c A P Q S) (hw : WF A) (hl : LAY h) (hf : h.2.2.2 68 4 = some c) {n d : Nat} {M : Nat → Nat → Nat} (hm : MN h 69 n d M) (mw : MW A n d M) (hr : HR h 68 A P S M n) : f_X3_costs h 68 = some (nI (feN A M n)) := by
  obtain ⟨b0, b1, b2l, b2, b3, b4⟩ := wf_b hw
  obtain ⟨mn, md, mk, mi⟩ := mw
  have hv : h.2.1 68 5 = nI (cntB (lvB A P S M n) (A 2)) := hr.1
  have cle := cntB_le (lvB A P S M n) (A 2)
  have hal : ∀ j, j < cntB (lvB A P S M n) (A 2) → h.2.1 75 j = nI (alN (lvB A P S M n) (A 2) j) ∧ alN (lvB A P S M n) (A 2) j < A 2 ∧ lvB A P S M n (alN (lvB A P S M n) (A 2) j) = true := fun j hj => hr_al hr hj
  have aln := al_N (lvB A P S M n) (A 2)
  have m4 : h.2.1 69 4 = nI n := hm.1
  have e1 : f_X3_costs_l4 h 68 (nI 0) (nI 0) = some (nI (feN A M n)) := by
    refine for0 (body := fun zz : Int32 × Int32 => f_X3_costs_b4 h 68 zz.1 zz.2) (fun j => (nI (feN A M j), nI j)) (n) (e := nI (feN A M n)) (rfl) (by omega) (fun j hj => ?_) ?_
    · obtain ⟨g0, g1, g2, g3⟩ := hm.2.2 j hj
      have g1' : h.2.1 71 j = nI (M j 1) := g1
      have g2' : h.2.1 72 j = nI (M j 2) := g2
      have q := mk j hj
      have e3 := hc.2.2.2.2.1 (M j 1) q.2.1
      have e4 := hc.2.2.2.2.1 (M j 2 / 2) (by omega)
      have h1 : M j 2 >>> 1 = M j 2 / 2 := by rw [Nat.shiftRight_eq_div_pow]
      simp (disch := first | assumption | omega | decide | ((repeat first | apply lyI | apply lyJ | apply lywI | apply lywJ | apply csI | apply csJ | apply cswI | apply cswJ); assumption)) only [f_X3_costs_b4, SH68, SC, LI, ↓li_m1, nI_add, pk_mul, nn_sub, nn_m1, nn_div, nn_rem, nn_nz, nn_mod, nJ_l, lN_add, lN_mul, nn_tb1, nI_bt, nn_and, nn_or, nn_xor, nn_shr, nn_1shl, nn_31, il_p, il_n, it_p, it_n, ie_p, ie_n, ie_b, ie_b1, ie_m, ie_mm, it_m, it_m0, il_m0, bI_rZ, Option.bind_some, bd2_some, Nat.add_zero, Nat.zero_add, if_true, if_false, Bool.false_eq_true, eq_self, hI_R, hJ_R, m4, hf, g1', g2', h1, e3, e4, nn_a1]
      unfold feN
      refine congrArg (fun x => some (Sum.inl (nI x, nI (j + 1)))) ?_
      show _ = _ + (A (64 + M j 1) + A (64 + M j 2 / 2) * (1 + M j 2 % 2))
      rw [Nat.add_comm 1 (M j 2 % 2), Nat.mul_comm (A (64 + M j 2 / 2))]
    · simp (disch := first | assumption | omega | decide | ((repeat first | apply lyI | apply lyJ | apply lywI | apply lywJ | apply csI | apply csJ | apply cswI | apply cswJ); assumption)) only [f_X3_costs_b4, SH68, LI, ↓li_m1, nI_add, pk_mul, nn_sub, nn_m1, nn_div, nn_rem, nn_nz, nn_mod, nJ_l, lN_add, lN_mul, nn_tb1, nI_bt, nn_and, nn_or, nn_xor, nn_shr, nn_1shl, nn_31, il_p, il_n, it_p, it_n, ie_p, ie_n, ie_b, ie_b1, ie_m, ie_mm, it_m, it_m0, il_m0, bI_rZ, Option.bind_some, bd2_some, Nat.add_zero, Nat.zero_add, if_true, if_false, Bool.false_eq_true, eq_self, hI_R, hJ_R, m4]
  simp (disch := first | assumption | omega | decide | ((repeat first | apply lyI | apply lyJ | apply lywI | apply lywJ | apply csI | apply csJ | apply cswI | apply cswJ); assumption)) only [f_X3_costs, SH68, LI, ↓li_m1, nI_add, pk_mul, nn_sub, nn_m1, nn_div, nn_rem, nn_nz, nn_mod, nJ_l, lN_add, lN_mul, nn_tb1, nI_bt, nn_and, nn_or, nn_xor, nn_shr, nn_1shl, nn_31, il_p, il_n, it_p, it_n, ie_p, ie_n, ie_b, ie_b1, ie_m, ie_mm, it_m, it_m0, il_m0, bI_rZ, Option.bind_some, bd2_some, Nat.add_zero, Nat.zero_add, if_true, if_false, Bool.false_eq_true, eq_self, hI_R, hJ_R, e1]
theorem k_today68 {h : aH} {c : Nat} (hs : CS h c) {A : Nat → Nat} {P : Nat → Bool} {Q : Nat → Nat → Bool} {S : Nat → Nat → Nat → Nat → Nat} (hc : CC h c A P Q S) (hw : WF A) (hl : LAY h) (hf : h.2.2.2 68 4 = some c) {n d : Nat} {M : Nat → Nat → Nat} (hm : MN h 69 n d M) (mw : MW A n d M) (hr : HR h 68 A P S M n) : f_X6_putToday h 69 = some (nI (cntB (fun k => M k 3 == d) n)) := by
  obtain ⟨b0, b1, b2l, b2, b3, b4⟩ := wf_b hw
  obtain ⟨mn, md, mk, mi⟩ := mw
  have hv : h.2.1 68 5 = nI (cntB (lvB A P S M n) (A 2)) := hr.1
  have cle := cntB_le (lvB A P S M n) (A 2)
  have hal : ∀ j, j < cntB (lvB A P S M n) (A 2) → h.2.1 75 j = nI (alN (lvB A P S M n) (A 2) j) ∧ alN (lvB A P S M n) (A 2) j < A 2 ∧ lvB A P S M n (alN (lvB A P S M n) (A 2) j) = true := fun j hj => hr_al hr hj
  have aln := al_N (lvB A P S M n) (A 2)
  have m4 : h.2.1 69 4 = nI n := hm.1
  have m5 : h.2.1 69 5 = nI d := hm.2.1
  have e1 : f_X6_putToday_l4 h 69 (nI 0) (nI 0) = some (nI (cntB (fun k => M k 3 == d) n)) := by
    refine for0 (body := fun zz : Int32 × Int32 => f_X6_putToday_b4 h 69 zz.1 zz.2) (fun j => (nI (cntB (fun k => M k 3 == d) j), nI j)) (n) (e := nI (cntB (fun k => M k 3 == d) n)) (rfl) (by omega) (fun j hj => ?_) ?_
    · have g3 : h.2.1 73 j = nI (M j 3) := (hm.2.2 j hj).2.2.2
      have q := mk j hj
      by_cases hx : M j 3 = d
      · simp (disch := first | assumption | omega | decide | ((repeat first | apply lyI | apply lyJ | apply lywI | apply lywJ | apply csI | apply csJ | apply cswI | apply cswJ); assumption)) only [f_X6_putToday_b4, f_X6_putToday_j28, SH68, LI, ↓li_m1, nI_add, pk_mul, nn_sub, nn_m1, nn_div, nn_rem, nn_nz, nn_mod, nJ_l, lN_add, lN_mul, nn_tb1, nI_bt, nn_and, nn_or, nn_xor, nn_shr, nn_1shl, nn_31, il_p, il_n, it_p, it_n, ie_p, ie_n, ie_b, ie_b1, ie_m, ie_mm, it_m, it_m0, il_m0, bI_rZ, Option.bind_some, bd2_some, Nat.add_zero, Nat.zero_add, if_true, if_false, Bool.false_eq_true, eq_self, hI_R, hJ_R, m4, m5, g3]
        simp [cntB, hx]
      · simp (disch := first | assumption | omega | decide | ((repeat first | apply lyI | apply lyJ | apply lywI | apply lywJ | apply csI | apply csJ | apply cswI | apply cswJ); assumption)) only [f_X6_putToday_b4, f_X6_putToday_j28, SH68, LI, ↓li_m1, nI_add, pk_mul, nn_sub, nn_m1, nn_div, nn_rem, nn_nz, nn_mod, nJ_l, lN_add, lN_mul, nn_tb1, nI_bt, nn_and, nn_or, nn_xor, nn_shr, nn_1shl, nn_31, il_p, il_n, it_p, it_n, ie_p, ie_n, ie_b, ie_b1, ie_m, ie_mm, it_m, it_m0, il_m0, bI_rZ, Option.bind_some, bd2_some, Nat.add_zero, Nat.zero_add, if_true, if_false, Bool.false_eq_true, eq_self, hI_R, hJ_R, m4, m5, g3]
        simp only [cntB, beq_eq_false_iff_ne.mpr hx]
        rfl
    · simp (disch := first | assumption | omega | decide | ((repeat first | apply lyI | apply lyJ | apply lywI | apply lywJ | apply csI | apply csJ | apply cswI | apply cswJ); assumption)) only [f_X6_putToday_b4, f_X6_putToday_j28, SH68, LI, ↓li_m1, nI_add, pk_mul, nn_sub, nn_m1, nn_div, nn_rem, nn_nz, nn_mod, nJ_l, lN_add, lN_mul, nn_tb1, nI_bt, nn_and, nn_or, nn_xor, nn_shr, nn_1shl, nn_31, il_p, il_n, it_p, it_n, ie_p, ie_n, ie_b, ie_b1, ie_m, ie_mm, it_m, it_m0, il_m0, bI_rZ, Option.bind_some, bd2_some, Nat.add_zero, Nat.zero_add, if_true, if_false, Bool.false_eq_true, eq_self, hI_R, hJ_R, m4]
  simp (disch := first | assumption | omega | decide | ((repeat first | apply lyI | apply lyJ | apply lywI | apply lywJ | apply csI | apply csJ | apply cswI | apply cswJ); assumption)) only [f_X6_putToday, SH68, LI, ↓li_m1, nI_add, pk_mul, nn_sub, nn_m1, nn_div, nn_rem, nn_nz, nn_mod, nJ_l, lN_add, lN_mul, nn_tb1, nI_bt, nn_and, nn_or, nn_xor, nn_shr, nn_1shl, nn_31, il_p, il_n, it_p, it_n, ie_p, ie_n, ie_b, ie_b1, ie_m, ie_mm, it_m, it_m0, il_m0, bI_rZ, Option.bind_some, bd2_some, Nat.add_zero, Nat.zero_add, if_true, if_false, Bool.false_eq_true, eq_self, hI_R, hJ_R, e1]
theorem k_lives52 {h : aH} {c : Nat} (hs : CS h c) {A : Nat → Nat} {P : Nat → Bool} {Q : Nat → Nat → Bool} {S : Nat → Nat → Nat → Nat → Nat} (hc : CC h c A P Q S) (hw : WF A) (hl : LAY h) (hf : h.2.2.2 52 4 = some c) {n d : Nat} {M : Nat → Nat → Nat} (hm : MN h 53 n d M) (mw : MW A n d M) (hr : HR h 52 A P S M n) {w : Nat} (h1 : w < A 2) : f_X3_lives h 52 (nI w) = some (bI (lvB A P S M n w)) := by
  obtain ⟨b0, b1, b2l, b2, b3, b4⟩ := wf_b hw
  obtain ⟨mn, md, mk, mi⟩ := mw
  have hv : h.2.1 52 5 = nI (cntB (lvB A P S M n) (A 2)) := hr.1
  have cle := cntB_le (lvB A P S M n) (A 2)
  have hal : ∀ j, j < cntB (lvB A P S M n) (A 2) → h.2.1 59 j = nI (alN (lvB A P S M n) (A 2) j) ∧ alN (lvB A P S M n) (A 2) j < A 2 ∧ lvB A P S M n (alN (lvB A P S M n) (A 2) j) = true := fun j hj => hr_al hr hj
  have aln := al_N (lvB A P S M n) (A 2)
  have e0 : anyB (fun j => alN (lvB A P S M n) (A 2) j == w) (cntB (lvB A P S M n) (A 2)) = lvB A P S M n w := by
    rw [al_any (q := fun x => x == w) aln, Bool.eq_iff_iff, anyB_iff]
    constructor
    · rintro ⟨x, x1, x2⟩
      simp only [Bool.and_eq_true, beq_iff_eq] at x2
      rw [← x2.2]
      exact x2.1
    · intro hx
      exact ⟨w, h1, by simp [hx]⟩
  rw [← e0, anyB_first]
  have e1 : f_X3_lives_l2 h 52 (nI w) (nI 0) = some (match firstB (fun j => alN (lvB A P S M n) (A 2) j == w) (cntB (lvB A P S M n) (A 2)) with | some _ => .inl () | none => .inr ()) := by
    refine srch (fun j => nI j) (fun j => alN (lvB A P S M n) (A 2) j == w) (cntB (lvB A P S M n) (A 2)) (fun _ => (Sum.inl () : Unit ⊕ Unit)) (Sum.inr ()) rfl (by omega) (fun j hj hp => ?_) (fun j hj hp => ?_) ?_
    · obtain ⟨a1, a2, a3⟩ := hal j hj
      have : alN (lvB A P S M n) (A 2) j ≠ w := by simpa using hp
      simp (disch := first | assumption | omega | decide | ((repeat first | apply lyI | apply lyJ | apply lywI | apply lywJ | apply csI | apply csJ | apply cswI | apply cswJ); assumption)) only [f_X3_lives_b2, SH52, LI, ↓li_m1, nI_add, pk_mul, nn_sub, nn_m1, nn_div, nn_rem, nn_nz, nn_mod, nJ_l, lN_add, lN_mul, nn_tb1, nI_bt, nn_and, nn_or, nn_xor, nn_shr, nn_1shl, nn_31, il_p, il_n, it_p, it_n, ie_p, ie_n, ie_b, ie_b1, ie_m, ie_mm, it_m, it_m0, il_m0, bI_rZ, Option.bind_some, bd2_some, Nat.add_zero, Nat.zero_add, if_true, if_false, Bool.false_eq_true, eq_self, hI_R, hJ_R, hv, a1]
    · obtain ⟨a1, a2, a3⟩ := hal j hj
      have : alN (lvB A P S M n) (A 2) j = w := by simpa using hp
      simp (disch := first | assumption | omega | decide | ((repeat first | apply lyI | apply lyJ | apply lywI | apply lywJ | apply csI | apply csJ | apply cswI | apply cswJ); assumption)) only [f_X3_lives_b2, SH52, LI, ↓li_m1, nI_add, pk_mul, nn_sub, nn_m1, nn_div, nn_rem, nn_nz, nn_mod, nJ_l, lN_add, lN_mul, nn_tb1, nI_bt, nn_and, nn_or, nn_xor, nn_shr, nn_1shl, nn_31, il_p, il_n, it_p, it_n, ie_p, ie_n, ie_b, ie_b1, ie_m, ie_mm, it_m, it_m0, il_m0, bI_rZ, Option.bind_some, bd2_some, Nat.add_zero, Nat.zero_add, if_true, if_false, Bool.false_eq_true, eq_self, hI_R, hJ_R, hv, a1]
    · simp (disch := first | assumption | omega | decide | ((repeat first | apply lyI | apply lyJ | apply lywI | apply lywJ | apply csI | apply csJ | apply cswI | apply cswJ); assumption)) only [f_X3_lives_b2, SH52, LI, ↓li_m1, nI_add, pk_mul, nn_sub, nn_m1, nn_div, nn_rem, nn_nz, nn_mod, nJ_l, lN_add, lN_mul, nn_tb1, nI_bt, nn_and, nn_or, nn_xor, nn_shr, nn_1shl, nn_31, il_p, il_n, it_p, it_n, ie_p, ie_n, ie_b, ie_b1, ie_m, ie_mm, it_m, it_m0, il_m0, bI_rZ, Option.bind_some, bd2_some, Nat.add_zero, Nat.zero_add, if_true, if_false, Bool.false_eq_true, eq_self, hI_R, hJ_R, hv]
  cases hx : firstB (fun j => alN (lvB A P S M n) (A 2) j == w) (cntB (lvB A P S M n) (A 2)) with
  | none =>
    rw [hx] at e1
    simp (disch := first | assumption | omega | decide | ((repeat first | apply lyI | apply lyJ | apply lywI | apply lywJ | apply csI | apply csJ | apply cswI | apply cswJ); assumption)) only [f_X3_lives, SH52, LI, ↓li_m1, nI_add, pk_mul, nn_sub, nn_m1, nn_div, nn_rem, nn_nz, nn_mod, nJ_l, lN_add, lN_mul, nn_tb1, nI_bt, nn_and, nn_or, nn_xor, nn_shr, nn_1shl, nn_31, il_p, il_n, it_p, it_n, ie_p, ie_n, ie_b, ie_b1, ie_m, ie_mm, it_m, it_m0, il_m0, bI_rZ, Option.bind_some, bd2_some, Nat.add_zero, Nat.zero_add, if_true, if_false, Bool.false_eq_true, eq_self, hI_R, hJ_R, e1]
    rfl
  | some x =>
    rw [hx] at e1
    simp (disch := first | assumption | omega | decide | ((repeat first | apply lyI | apply lyJ | apply lywI | apply lywJ | apply csI | apply csJ | apply cswI | apply cswJ); assumption)) only [f_X3_lives, SH52, LI, ↓li_m1, nI_add, pk_mul, nn_sub, nn_m1, nn_div, nn_rem, nn_nz, nn_mod, nJ_l, lN_add, lN_mul, nn_tb1, nI_bt, nn_and, nn_or, nn_xor, nn_shr, nn_1shl, nn_31, il_p, il_n, it_p, it_n, ie_p, ie_n, ie_b, ie_b1, ie_m, ie_mm, it_m, it_m0, il_m0, bI_rZ, Option.bind_some, bd2_some, Nat.add_zero, Nat.zero_add, if_true, if_false, Bool.false_eq_true, eq_self, hI_R, hJ_R, e1]
    rfl
