/-! ===== the maker's rows ===== -/
/-- the sayings that hold in a world -/
def swN (A : Nat → Nat) (Q : Nat → Nat → Bool) (w : Nat) : Nat := syN (qwN A Q w (A 3)) (qwN A Q w (A 3) ^^^ F32) 12
theorem sw_bit {A : Nat → Nat} {P : Nat → Bool} {Q : Nat → Nat → Bool} (h3 : A 3 ≤ 12) {w s : Nat} (hs : s < 2 * A 3) (hp : P w = true) : (swN A Q w).testBit s = mnB P Q s w := by
  unfold swN mnB
  rw [sy_bit (show s < 2 * 12 by omega), xF (by omega), qwN_bit A Q w (show s / 2 < A 3 by omega), hp, Bool.true_and]
def meN (A : Nat → Nat) (P : Nat → Bool) (Q : Nat → Nat → Bool) (q : Nat) : Nat → Nat := orN (fun w => if (P w && Q q w) = true then swN A Q w else 0)
def leN (A : Nat → Nat) (P : Nat → Bool) (Q : Nat → Nat → Bool) (q : Nat) : Nat → Nat := orN (fun w => if (P w && !Q q w) = true then swN A Q w else 0)
def neN (A : Nat → Nat) (P : Nat → Bool) (Q : Nat → Nat → Bool) : Nat → Nat := orN (fun w => if P w = true then swN A Q w ^^^ F32 else 0)
theorem ne_s {A : Nat → Nat} {P : Nat → Bool} {Q : Nat → Nat → Bool} {j : Nat} : neN A P Q (j + 1) = neN A P Q j ||| (if P j = true then swN A Q j ^^^ F32 else 0) := by simp only [neN, orN]
theorem me_s {A : Nat → Nat} {P : Nat → Bool} {Q : Nat → Nat → Bool} {q j : Nat} : meN A P Q q (j + 1) = meN A P Q q j ||| (if (P j && Q q j) = true then swN A Q j else 0) := by simp only [meN, orN]
theorem le_s {A : Nat → Nat} {P : Nat → Bool} {Q : Nat → Nat → Bool} {q j : Nat} : leN A P Q q (j + 1) = leN A P Q q j ||| (if (P j && !Q q j) = true then swN A Q j else 0) := by simp only [leN, orN]
/-- what relateSayings leaves -/
def RS (h : aH) (A : Nat → Nat) (P : Nat → Bool) (Q : Nat → Nat → Bool) (j : Nat) : Prop := h.2.1 43 4 = nI (neN A P Q j) ∧ ∀ q, q < A 3 → h.2.1 46 q = nI (meN A P Q q j) ∧ h.2.1 47 q = nI (leN A P Q q j)
theorem cb_fr {h h' : aH} {c : Nat} {A : Nat → Nat} {P : Nat → Bool} {Q : Nat → Nat → Bool} {cI cJ f0 f1 : List Nat} (hf : FR h h' cI cJ f0 f1) (h1 : ∀ x ∈ cI, x < 26 ∨ (41 < x ∧ x < 136)) (hs : CS h c) (hc : CB h c A P Q) : CB h' c A P Q := cb_up (fun j hj => hf.I (c + j) (fun hm => by
  have := h1 _ hm
  have := hs.1
  omega) (by have := hs.1; omega) (by have := hs.1; omega)) hc
theorem b_rel1 {h : aH} {c : Nat} (hs : CS h c) {A : Nat → Nat} {P : Nat → Bool} {Q : Nat → Nat → Bool} (hc : CB h c A P Q) (hw : WF A) (hl : LAY h) {w : Nat} (h1 : w < A 2) (hp : P w = true) {m l : Nat → Nat} (hm : ∀ q, q < A 3 → h.2.1 46 q = nI (m q) ∧ h.2.1 47 q = nI (l q)) : ∃ h', f_X0_relateSayings_l75 43 c (nI w) (nI (swN A Q w)) (nI 0) h = some h' ∧ FR h h' [46, 47] [] [] [] ∧ ∀ q, q < A 3 → h'.2.1 46 q = nI (m q ||| (if Q q w = true then swN A Q w else 0)) ∧ h'.2.1 47 q = nI (l q ||| (if Q q w = true then 0 else swN A Q w)) := by
  obtain ⟨b0, b1, b2l, b2, b3, b4⟩ := wf_b hw
  refine forI (fun j (t : Int32 × aH) => ∃ g, t = (nI j, g) ∧ FR h g [46, 47] [] [] [] ∧ ∀ q, q < A 3 → g.2.1 46 q = nI (m q ||| (if (decide (q < j) && Q q w) = true then swN A Q w else 0)) ∧ g.2.1 47 q = nI (l q ||| (if (decide (q < j) && !Q q w) = true then swN A Q w else 0))) _ (A 3) (by omega) ⟨h, rfl, FR.rf, fun q hq => by
    rw [decide_eq_false (by omega), Bool.false_and, Bool.false_and, if_neg (by decide), Nat.or_zero, Nat.or_zero]
    exact hm q hq⟩ ?_ ?_
  · rintro j _ hj ⟨g, rfl, fg, i1⟩
    have lg := fg.lay hl
    have sg := cs_fr fg hs
    have cg := cb_fr fg (by decide) hs hc
    have e3 := cg.1.2.2.2.2.1
    have r := b_inQ sg cg hw h1 hj
    obtain ⟨x1, x2⟩ := i1 j hj
    rw [decide_eq_false (by omega), Bool.false_and] at x1 x2
    rw [if_neg (by decide), Nat.or_zero] at x1 x2
    have st : ∀ q, q ≠ j → decide (q < j + 1) = decide (q < j) := fun q hq => by rw [decide_eq_decide]; omega
    rcases (Bool.eq_false_or_eq_true (Q j w)).symm with hb | hb
    · rw [hb] at r
      refine ⟨(nI (j + 1), hI g 47 j (nI (l j ||| swN A Q w))), by simp (disch := first | assumption | omega | decide | ((repeat first | apply lyI | apply lyJ | apply lywI | apply lywJ | apply csI | apply csJ | apply cswI | apply cswJ); assumption)) only [f_X0_relateSayings_b75, f_X0_relateSayings_j120, SR, SC, LI, ↓li_m1, nI_add, pk_mul, nn_sub, nn_m1, nn_div, nn_rem, nn_nz, nn_mod, nJ_l, lN_add, lN_mul, nn_tb1, nI_bt, nn_and, nn_or, nn_xor, nn_shr, nn_1shl, nn_31, il_p, il_n, it_p, it_n, ie_p, ie_n, ie_b, ie_b1, ie_m, ie_mm, it_m, it_m0, il_m0, bI_rZ, Option.bind_some, bd2_some, Nat.add_zero, Nat.zero_add, if_true, if_false, Bool.false_eq_true, eq_self, hI_R, hJ_R, ng_t, ng_e, e3, r, bI_f, x2], _, rfl, fg.tr (FR.hI (by decide) (by decide) (by decide)), fun q hq => ?_⟩
      rw [rI_ne (by decide)]
      by_cases hx : q = j
      · subst hx
        rw [rI_eq, decide_eq_true (by omega), hb]
        rw [Bool.and_false, if_neg (by decide), Nat.or_zero]
        exact ⟨x1, rfl⟩
      · rw [rI_nk hx, st q hx]
        exact i1 q hq
    · rw [hb] at r
      refine ⟨(nI (j + 1), hI g 46 j (nI (m j ||| swN A Q w))), by simp (disch := first | assumption | omega | decide | ((repeat first | apply lyI | apply lyJ | apply lywI | apply lywJ | apply csI | apply csJ | apply cswI | apply cswJ); assumption)) only [f_X0_relateSayings_b75, f_X0_relateSayings_j120, SR, SC, LI, ↓li_m1, nI_add, pk_mul, nn_sub, nn_m1, nn_div, nn_rem, nn_nz, nn_mod, nJ_l, lN_add, lN_mul, nn_tb1, nI_bt, nn_and, nn_or, nn_xor, nn_shr, nn_1shl, nn_31, il_p, il_n, it_p, it_n, ie_p, ie_n, ie_b, ie_b1, ie_m, ie_mm, it_m, it_m0, il_m0, bI_rZ, Option.bind_some, bd2_some, Nat.add_zero, Nat.zero_add, if_true, if_false, Bool.false_eq_true, eq_self, hI_R, hJ_R, ng_t, ng_e, e3, r, bI_t, x1], _, rfl, fg.tr (FR.hI (by decide) (by decide) (by decide)), fun q hq => ?_⟩
      rw [rI_ne (i := 47) (by decide)]
      by_cases hx : q = j
      · subst hx
        rw [rI_eq, decide_eq_true (by omega), hb]
        refine ⟨rfl, ?_⟩
        rw [Bool.not_true, Bool.and_false, if_neg (by decide), Nat.or_zero]
        exact x2
      · rw [rI_nk hx, st q hx]
        exact i1 q hq
  · rintro _ ⟨g, rfl, fg, i1⟩
    have lg := fg.lay hl
    have sg := cs_fr fg hs
    have e3 := (cb_fr fg (by decide) hs hc).1.2.2.2.2.1
    refine ⟨g, by simp (disch := first | assumption | omega | decide | ((repeat first | apply lyI | apply lyJ | apply lywI | apply lywJ | apply csI | apply csJ | apply cswI | apply cswJ); assumption)) only [f_X0_relateSayings_b75, SC, LI, ↓li_m1, nI_add, pk_mul, nn_sub, nn_m1, nn_div, nn_rem, nn_nz, nn_mod, nJ_l, lN_add, lN_mul, nn_tb1, nI_bt, nn_and, nn_or, nn_xor, nn_shr, nn_1shl, nn_31, il_p, il_n, it_p, it_n, ie_p, ie_n, ie_b, ie_b1, ie_m, ie_mm, it_m, it_m0, il_m0, bI_rZ, Option.bind_some, bd2_some, Nat.add_zero, Nat.zero_add, if_true, if_false, Bool.false_eq_true, eq_self, hI_R, hJ_R, ng_t, ng_e, e3], fg, fun q hq => ?_⟩
    have := i1 q hq
    rw [decide_eq_true hq, Bool.true_and, Bool.true_and] at this
    refine ⟨this.1, ?_⟩
    rw [this.2]
    cases Q q w <;> rfl
theorem b_r23 {h : aH} {c : Nat} (hs : CS h c) (hl : LAY h) {j n2 : Nat} (hj : j < n2) (h2 : n2 ≤ 256) (e2 : h.2.1 c 14 = nI n2) {b : Bool} (r : f_X1_canBe h c (nI j) = some (bI b)) {x s o z : Int32} {g : aH} (hx : h.2.1 (c + 10) j = x) (hs2 : f_X0_sayingsOf h x (x ^^^ (-1 : Int32)) = some s) (ho : h.2.1 43 4 = o) (hz : o ||| (s ^^^ (-1 : Int32)) = z) (e : b = true → f_X0_relateSayings_l75 43 c (nI j) s (0 : Int32) (hI h 43 4 z) = some g) : f_X0_relateSayings_b23 43 c (nI j) h = some (.inl (nI (j + 1), if b = true then g else h)) := by
  have k0 := cs_kd hs 0 (by decide)
  rw [Nat.add_zero] at k0
  have t1 : gI h 1 c 14 = some (nI n2) := (gI_K k0).trans (congrArg some e2)
  have t2 : ck h 1 c = some () := ck_K k0
  have t3 : gR h 1 c 6 = some (c + 10) := (gR_K k0).trans (hs.2.2.2.1 6 (by decide) (by decide))
  have t4 : lI h (c + 10) (nI j) = some x := (lI_K (cs_kd hs 10 (by decide)) (cs_ln hs 10 (by decide)) (by decide) (show j < 256 by omega)).trans (congrArg some hx)
  have t5 : gI h 0 43 4 = some o := (gI_L hl 4 (by decide) (by decide)).trans (congrArg some ho)
  have t6 : pI h 0 43 4 z = some (hI h 43 4 z) := pI_L hl 4 z (by decide) (by decide)
  have t7 : ¬ nI n2 ≤ nI j := nI_ge hj (by omega)
  have t8 : nI j + (1 : Int32) = nI (j + 1) := nI_1 j
  unfold f_X0_relateSayings_b23
  rw [t1, Option.bind_some, if_neg t7, t2, Option.bind_some, r, Option.bind_some]
  cases b
  · rw [if_pos (by decide)]
    unfold f_X0_relateSayings_j126
    rw [Option.bind_some, t8]
    rfl
  · rw [if_neg (by decide), t3, Option.bind_some, t4, Option.bind_some, Option.bind_some, t4, Option.bind_some, hs2, Option.bind_some, t5, Option.bind_some, hz, t6, Option.bind_some, e rfl, Option.bind_some]
    unfold f_X0_relateSayings_j126
    rw [Option.bind_some, t8]
    rfl
theorem b_rel2 {h : aH} {c : Nat} (hs : CS h c) {A : Nat → Nat} {P : Nat → Bool} {Q : Nat → Nat → Bool} (hc : CB h c A P Q) (hw : WF A) (hl : LAY h) {j : Nat} (hj : j < A 2) (rs : RS h A P Q j) : ∃ h', f_X0_relateSayings_b23 43 c (nI j) h = some (.inl (nI (j + 1), h')) ∧ FR h h' [43, 46, 47] [] [] [] ∧ RS h' A P Q (j + 1) := by
  obtain ⟨b0, b1, b2l, b2, b3, b4⟩ := wf_b hw
  obtain ⟨r4, rq⟩ := rs
  have e2' := hc.1.2.2.1
  have r1 := b_canBe hs hc hw hj
  have eq := (hc.2.2.2.1 j hj).2
  have r2 : f_X0_sayingsOf h (nI (qwN A Q j (A 3))) (nI (qwN A Q j (A 3)) ^^^ (-1 : Int32)) = some (nI (swN A Q j)) := by
    rw [li_m1, m1_n, nn_xor]
    unfold swN
    exact x_say
  have hz : nI (neN A P Q j) ||| (nI (swN A Q j) ^^^ (-1 : Int32)) = nI (neN A P Q j ||| (swN A Q j ^^^ F32)) := by
    rw [li_m1, m1_n, nn_xor, nn_or]
  rcases (Bool.eq_false_or_eq_true (P j)).symm with hp | hp
  · rw [hp] at r1
    refine ⟨h, b_r23 (g := h) hs hl hj b2 e2' r1 eq r2 r4 hz (fun e => by cases e), FR.rf, ?_, fun q hq => ?_⟩
    · rw [r4, ne_s, hp, if_neg (by decide), Nat.or_zero]
    · rw [(rq q hq).1, (rq q hq).2, me_s, le_s, hp, Bool.false_and, Bool.false_and, if_neg (by decide), Nat.or_zero, Nat.or_zero]
      exact ⟨rfl, rfl⟩
  · rw [hp] at r1
    have fg2 : FR h (hI h 43 4 (nI (neN A P Q j ||| (swN A Q j ^^^ F32)))) [43, 46, 47] [] [] [] := FR.hI (by decide) (by decide) (by decide)
    obtain ⟨g', e5, f5, i5⟩ := b_rel1 (cs_fr fg2 hs) (cb_fr fg2 (by decide) hs hc) hw (fg2.lay hl) hj hp (m := fun q => meN A P Q q j) (l := fun q => leN A P Q q j) (fun q hq => ⟨by rw [rI_ne (by decide)]; exact (rq q hq).1, by rw [rI_ne (by decide)]; exact (rq q hq).2⟩)
    refine ⟨g', b_r23 hs hl hj b2 e2' r1 eq r2 r4 hz (fun _ => e5), fg2.tr (f5.mono (by decide) (by decide) (by decide) (by decide)), ?_, fun q hq => ?_⟩
    · rw [f5.I 43 (by decide) (by decide) (by decide), rI_eq, ne_s, hp, if_pos rfl]
    · obtain ⟨y1, y2⟩ := i5 q hq
      rw [y1, y2, me_s, le_s, hp, Bool.true_and, Bool.true_and]
      refine ⟨rfl, ?_⟩
      cases Q q j
      · rw [if_neg (by decide), if_pos (by decide)]
      · rw [if_pos rfl, if_neg (by decide)]
theorem fill_F {h : aH} {a n : Nat} {x : Int32} (hk : kd h a = 20) (hn : ln h a = n) (hz : n < 100000) (h0 : a ≠ 0) (h1 : a ≠ 113) : ∃ g, f_J7_fill_53178 h a x = some g ∧ FR h g [a] [] [] [] ∧ ∀ q, q < n → g.2.1 a q = x :=
  ⟨_, fill_I hk hn hz, FR.wI (List.mem_singleton.mpr rfl) h0 h1, fun q hq => by rw [wI_s, setF_in0 hq]⟩
theorem b_relate {h : aH} {c : Nat} (hs : CS h c) {A : Nat → Nat} {P : Nat → Bool} {Q : Nat → Nat → Bool} (hc : CB h c A P Q) (hw : WF A) (hl : LAY h) : ∃ h', f_X0_relateSayings h 43 c = some h' ∧ FR h h' [43, 46, 47] [] [] [] ∧ RS h' A P Q (A 2) := by
  obtain ⟨b0, b1, b2l, b2, b3, b4⟩ := wf_b hw
  obtain ⟨g1, e1, f1, z1⟩ := fill_F (h := hI h 43 4 (nI 0)) (a := 46) (n := 12) (x := nI 0) (lay_kd hl 46 (by decide)) (lay_ln hl 46 (by decide)) (by decide) (by decide) (by decide)
  have l1 := f1.lay (show LAY (hI h 43 4 (nI 0)) from hl)
  obtain ⟨h2, e2, f2', z2⟩ := fill_F (h := g1) (a := 47) (n := 12) (x := nI 0) (lay_kd l1 47 (by decide)) (lay_ln l1 47 (by decide)) (by decide) (by decide) (by decide)
  have f2 : FR h h2 [43, 46, 47] [] [] [] := ((FR.hI (by decide) (by decide) (by decide)).tr (f1.mono (by decide) (by decide) (by decide) (by decide))).tr (f2'.mono (by decide) (by decide) (by decide) (by decide))
  have y4 : h2.2.1 43 4 = nI 0 := by rw [f2'.I 43 (by decide) (by decide) (by decide), f1.I 43 (by decide) (by decide) (by decide), rI_eq]
  have y46 : ∀ q, q < 12 → h2.2.1 46 q = nI 0 := fun q hq => by rw [f2'.I 46 (by decide) (by decide) (by decide)]; exact z1 q hq
  have e : ∃ h', f_X0_relateSayings_l23 43 c (nI 0) h2 = some h' ∧ FR h h' [43, 46, 47] [] [] [] ∧ RS h' A P Q (A 2) := by
    refine forI (fun j (t : Int32 × aH) => ∃ g, t = (nI j, g) ∧ FR h g [43, 46, 47] [] [] [] ∧ RS g A P Q j) _ (A 2) (by omega) ⟨h2, rfl, f2, y4, fun q hq => ⟨y46 q (by omega), z2 q (by omega)⟩⟩ ?_ ?_
    · rintro j _ hj ⟨g, rfl, fg, rs⟩
      obtain ⟨g', e5, f5, r5⟩ := b_rel2 (cs_fr fg hs) (cb_fr fg (by decide) hs hc) hw (fg.lay hl) hj rs
      exact ⟨(nI (j + 1), g'), e5, g', rfl, fg.tr f5, r5⟩
    · rintro _ ⟨g, rfl, fg, rs⟩
      have lg := fg.lay hl
      have sg := cs_fr fg hs
      have e2' := (cb_fr fg (by decide) hs hc).1.2.2.1
      exact ⟨g, by simp (disch := first | assumption | omega | decide | ((repeat first | apply lyI | apply lyJ | apply lywI | apply lywJ | apply csI | apply csJ | apply cswI | apply cswJ); assumption)) only [f_X0_relateSayings_b23, SC, LI, ↓li_m1, nI_add, pk_mul, nn_sub, nn_m1, nn_div, nn_rem, nn_nz, nn_mod, nJ_l, lN_add, lN_mul, nn_tb1, nI_bt, nn_and, nn_or, nn_xor, nn_shr, nn_1shl, nn_31, il_p, il_n, it_p, it_n, ie_p, ie_n, ie_b, ie_b1, ie_m, ie_mm, it_m, it_m0, il_m0, bI_rZ, Option.bind_some, bd2_some, Nat.add_zero, Nat.zero_add, if_true, if_false, Bool.false_eq_true, eq_self, hI_R, hJ_R, ng_t, ng_e, e2'], fg, rs⟩
  obtain ⟨h', e5, f5, rs⟩ := e
  exact ⟨h', by simp (disch := first | assumption | omega | decide | ((repeat first | apply lyI | apply lyJ | apply lywI | apply lywJ | apply csI | apply csJ | apply cswI | apply cswJ); assumption)) only [f_X0_relateSayings, SR, LI, ↓li_m1, nI_add, pk_mul, nn_sub, nn_m1, nn_div, nn_rem, nn_nz, nn_mod, nJ_l, lN_add, lN_mul, nn_tb1, nI_bt, nn_and, nn_or, nn_xor, nn_shr, nn_1shl, nn_31, il_p, il_n, it_p, it_n, ie_p, ie_n, ie_b, ie_b1, ie_m, ie_mm, it_m, it_m0, il_m0, bI_rZ, Option.bind_some, bd2_some, Nat.add_zero, Nat.zero_add, if_true, if_false, Bool.false_eq_true, eq_self, hI_R, hJ_R, ng_t, ng_e, e1, e2, e5], f5, rs⟩
