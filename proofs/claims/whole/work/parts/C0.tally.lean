/-! ===== tally ===== -/
def evN (A : Nat → Nat) (P : Nat → Bool) (Q : Nat → Nat → Bool) (S : Nat → Nat → Nat → Nat → Nat) (W F G B : Nat → Nat) (ns s : Nat) : Nat := (rcE A P Q S (trN A P s) (rcS A P Q S (trN A P s) (tkN A s) W F G B (0, 0, M0) ns)).1
theorem ju_le {A : Nat → Nat} {P : Nat → Bool} {Q : Nat → Nat → Bool} {S : Nat → Nat → Nat → Nat → Nat} {tr q : Nat} {t : MT} : juN A P Q S tr q t ≤ 1 := by
  unfold juN
  repeat' split
  all_goals omega
theorem ev_le {A : Nat → Nat} {P : Nat → Bool} {Q : Nat → Nat → Bool} {S : Nat → Nat → Nat → Nat → Nat} {W F G B : Nat → Nat} {ns s : Nat} : evN A P Q S W F G B ns s ≤ 2 := by
  unfold evN rcE
  split
  · exact Nat.le_refl _
  · exact Nat.le_trans ju_le (by decide)
theorem x_tally {p : Nat} (hp14 : p = 14 ∨ p = 20) {h : aH} {c : Nat} (hs : CS h c) {A : Nat → Nat} {P : Nat → Bool} {Q : Nat → Nat → Bool} {S : Nat → Nat → Nat → Nat → Nat} (hc : CC h c A P Q S) (hw : WF A) (hl : LAY h) (hn : h.2.2.2 0 11 = some c) (hp : h.2.2.2 0 12 = some p) (hz : cntB P (A 2) ≠ 0) {v m ez : Nat} (hv : v + m ≤ 10000) (hm : m ≤ 30) (he : ez ≤ 2) {W F G B : Nat → Nat} {ns : Nat} (pc : PC h p W F G B ns) (pw : PW A W F G B ns) : ∃ r, f_X11_tally_l66 0 (nI v) (nI m) (nI ez) (nI 0) (nI 0) h = some r ∧ ∃ g x, r = (nI (cntB (fun i => evN A P Q S W F G B ns (v + i) == ez) m), g) ∧ FR (hR h 68 4 x) g L66 [] [] [] := by
  refine forI (fun j (t : Int32 × Int32 × aH) => ∃ g x, t = (nI (cntB (fun i => evN A P Q S W F G B ns (v + i) == ez) j), nI j, g) ∧ FR (hR h 68 4 x) g L66 [] [] []) _ m (by omega) ⟨h, h.2.2.2 68 4, rfl, by rw [hR_self]; exact FR.rf⟩ ?_ ?_
  · rintro j _ hj ⟨g, x, rfl, fg⟩
    have lg := fg.lay (lay_R hl)
    have sg := cs_fr fg (cs_R hs)
    have cg := cc_fr fg (by decide) (cs_R (x := x) hs) hc
    have rg : ∀ k, g.2.2.2 0 k = h.2.2.2 0 k := fun k => by
      rw [fg.2.1, rR_hR, if_neg (by omega)]
    have n1 : g.2.2.2 0 11 = some c := (rg 11).trans hn
    have n2 : g.2.2.2 0 12 = some p := (rg 12).trans hp
    have pcg : PC g p W F G B ns := by
      rcases hp14 with rfl | rfl
      · unfold PC
        rw [fg.I 14 (by decide) (by decide) (by decide), fg.I (14 + 1) (by decide) (by decide) (by decide), fg.I (14 + 2) (by decide) (by decide) (by decide), fg.I (14 + 3) (by decide) (by decide) (by decide), fg.I (14 + 4) (by decide) (by decide) (by decide)]
        exact pc
      · unfold PC
        rw [fg.I 20 (by decide) (by decide) (by decide), fg.I (20 + 1) (by decide) (by decide) (by decide), fg.I (20 + 2) (by decide) (by decide) (by decide), fg.I (20 + 3) (by decide) (by decide) (by decide), fg.I (20 + 4) (by decide) (by decide) (by decide)]
        exact pc
    obtain ⟨g', t, e, r1, f1, -, -, -, -, hrc⟩ := x_court hp14 sg cg hw lg hz (seed := v + j) (by omega) pcg pw
    have ee : evN A P Q S W F G B ns (v + j) = e := by
      unfold evN
      rw [hrc]
    have el := ev_le (A := A) (P := P) (Q := Q) (S := S) (W := W) (F := F) (G := G) (B := B) (ns := ns) (s := v + j)
    rw [ee] at el
    have fr2 := fr_R (a := 68) (k := 4) (y := some c) fg
    rw [hR_hR] at fr2
    have cle := cntB_le (fun i => evN A P Q S W F G B ns (v + i) == ez) j
    by_cases hx : e = ez
    · refine ⟨(nI (cntB (fun i => evN A P Q S W F G B ns (v + i) == ez) j + 1), nI (j + 1), g'), ?_, g', some c, ?_, fr2.tr f1⟩
      · simp (disch := first | assumption | omega | decide | ((repeat first | apply lyI | apply lyJ | apply lywI | apply lywJ | apply csI | apply csJ | apply cswI | apply cswJ); assumption)) only [f_X11_tally_b66, f_X11_tally_j98, S0, SG, LI, ↓li_m1, nI_add, pk_mul, nn_sub, nn_m1, nn_div, nn_rem, nn_nz, nn_mod, nJ_l, lN_add, lN_mul, nn_tb1, nI_bt, nn_and, nn_or, nn_xor, nn_shr, nn_1shl, nn_31, il_p, il_n, it_p, it_n, ie_p, ie_n, ie_b, ie_b1, ie_m, ie_mm, it_m, it_m0, il_m0, bI_rZ, Option.bind_some, bd2_some, Nat.add_zero, Nat.zero_add, if_true, if_false, Bool.false_eq_true, eq_self, hI_R, hJ_R, ng_t, ng_e, n1, n2, r1, hx]
      · rw [cntB_t (p := fun i => evN A P Q S W F G B ns (v + i) == ez) (by show (_ == ez) = true; rw [ee, hx]; simp)]
    · refine ⟨(nI (cntB (fun i => evN A P Q S W F G B ns (v + i) == ez) j), nI (j + 1), g'), ?_, g', some c, ?_, fr2.tr f1⟩
      · simp (disch := first | assumption | omega | decide | ((repeat first | apply lyI | apply lyJ | apply lywI | apply lywJ | apply csI | apply csJ | apply cswI | apply cswJ); assumption)) only [f_X11_tally_b66, f_X11_tally_j98, S0, SG, LI, ↓li_m1, nI_add, pk_mul, nn_sub, nn_m1, nn_div, nn_rem, nn_nz, nn_mod, nJ_l, lN_add, lN_mul, nn_tb1, nI_bt, nn_and, nn_or, nn_xor, nn_shr, nn_1shl, nn_31, il_p, il_n, it_p, it_n, ie_p, ie_n, ie_b, ie_b1, ie_m, ie_mm, it_m, it_m0, il_m0, bI_rZ, Option.bind_some, bd2_some, Nat.add_zero, Nat.zero_add, if_true, if_false, Bool.false_eq_true, eq_self, hI_R, hJ_R, ng_t, ng_e, n1, n2, r1]
      · rw [cntB_f (p := fun i => evN A P Q S W F G B ns (v + i) == ez) (by show (_ == ez) = false; rw [ee]; exact beq_eq_false_iff_ne.mpr hx)]
  · rintro _ ⟨g, x, rfl, fg⟩
    exact ⟨_, by simp (disch := first | assumption | omega | decide | ((repeat first | apply lyI | apply lyJ | apply lywI | apply lywJ | apply csI | apply csJ | apply cswI | apply cswJ); assumption)) only [f_X11_tally_b66, LI, ↓li_m1, nI_add, pk_mul, nn_sub, nn_m1, nn_div, nn_rem, nn_nz, nn_mod, nJ_l, lN_add, lN_mul, nn_tb1, nI_bt, nn_and, nn_or, nn_xor, nn_shr, nn_1shl, nn_31, il_p, il_n, it_p, it_n, ie_p, ie_n, ie_b, ie_b1, ie_m, ie_mm, it_m, it_m0, il_m0, bI_rZ, Option.bind_some, bd2_some, Nat.add_zero, Nat.zero_add, if_true, if_false, Bool.false_eq_true, eq_self, hI_R, hJ_R, ng_t, ng_e], g, x, rfl, fg⟩
theorem r_tally {h : aH} (hl : LAY h) {A : Nat → Nat} {P : Nat → Bool} {Q : Nat → Nat → Bool} (hc : CM h A P Q) (hw : WF A) {n d : Nat} {M : Nat → Nat → Nat} (hm : MM h n d M) (mw : MW A n d M) {S : Nat → Nat → Nat → Nat → Nat} (hs : SY h A P S) (hz : cntB P (A 2) ≠ 0) {v m ez : Nat} (hv : v + m ≤ 10000) (hm30 : m ≤ 30) (he : ez ≤ 2) {K : Nat → Nat → Nat} {N : Nat} (pr : PR h K N) {W F G B : Nat → Nat} {ns : Nat} (pk : PK A K N W F G B ns) : ∃ r, f_X12_tally_l70 113 (nI v) (nI m) (nI ez) (nI 0) (nI 0) h = some r ∧ ∃ g, r = (nI (cntB (fun i => evN A P Q S W F G B ns (v + i) == ez) m), g) ∧ FR h g [129, 130, 132, 133, 134] [] [] [39, 40, 41] := by
  refine forI (fun j (t : Int32 × Int32 × aH) => ∃ g, t = (nI (cntB (fun i => evN A P Q S W F G B ns (v + i) == ez) j), nI j, g) ∧ FR h g [129, 130, 132, 133, 134] [] [] [39, 40, 41]) _ m (by omega) ⟨h, rfl, FR.rf⟩ ?_ ?_
  · rintro j _ hj ⟨g, rfl, fg⟩
    have lg := fg.lay hl
    have prg : PR g K N := by
      unfold PR
      rw [fg.I 114 (by decide) (by decide) (by decide)]
      exact pr
    obtain ⟨g', t, e, r1, f1, -, e41, hrc, -⟩ := r_sits lg (cm_fr fg (by decide) (by decide) hc) hw (mm_fr fg (by decide) hm) mw (sy_fr fg (by decide) hs) hz (seed := v + j) (by omega) prg pk
    have l1 := f1.lay lg
    have ee : evN A P Q S W F G B ns (v + j) = e := by
      unfold evN
      rw [hrc]
    have el := ev_le (A := A) (P := P) (Q := Q) (S := S) (W := W) (F := F) (G := G) (B := B) (ns := ns) (s := v + j)
    rw [ee] at el
    have cle := cntB_le (fun i => evN A P Q S W F G B ns (v + i) == ez) j
    by_cases hx : e = ez
    · refine ⟨(nI (cntB (fun i => evN A P Q S W F G B ns (v + i) == ez) j + 1), nI (j + 1), g'), ?_, g', ?_, fg.tr f1⟩
      · simp (disch := first | assumption | omega | decide | ((repeat first | apply lyI | apply lyJ | apply lywI | apply lywJ | apply csI | apply csJ | apply cswI | apply cswJ); assumption)) only [f_X12_tally_b70, f_X12_tally_j99, SM, LI, ↓li_m1, nI_add, pk_mul, nn_sub, nn_m1, nn_div, nn_rem, nn_nz, nn_mod, nJ_l, lN_add, lN_mul, nn_tb1, nI_bt, nn_and, nn_or, nn_xor, nn_shr, nn_1shl, nn_31, il_p, il_n, it_p, it_n, ie_p, ie_n, ie_b, ie_b1, ie_m, ie_mm, it_m, it_m0, il_m0, bI_rZ, Option.bind_some, bd2_some, Nat.add_zero, Nat.zero_add, if_true, if_false, Bool.false_eq_true, eq_self, hI_R, hJ_R, ng_t, ng_e, r1, e41, hx]
      · rw [cntB_t (p := fun i => evN A P Q S W F G B ns (v + i) == ez) (by show (_ == ez) = true; rw [ee, hx]; simp)]
    · refine ⟨(nI (cntB (fun i => evN A P Q S W F G B ns (v + i) == ez) j), nI (j + 1), g'), ?_, g', ?_, fg.tr f1⟩
      · simp (disch := first | assumption | omega | decide | ((repeat first | apply lyI | apply lyJ | apply lywI | apply lywJ | apply csI | apply csJ | apply cswI | apply cswJ); assumption)) only [f_X12_tally_b70, f_X12_tally_j99, SM, LI, ↓li_m1, nI_add, pk_mul, nn_sub, nn_m1, nn_div, nn_rem, nn_nz, nn_mod, nJ_l, lN_add, lN_mul, nn_tb1, nI_bt, nn_and, nn_or, nn_xor, nn_shr, nn_1shl, nn_31, il_p, il_n, it_p, it_n, ie_p, ie_n, ie_b, ie_b1, ie_m, ie_mm, it_m, it_m0, il_m0, bI_rZ, Option.bind_some, bd2_some, Nat.add_zero, Nat.zero_add, if_true, if_false, Bool.false_eq_true, eq_self, hI_R, hJ_R, ng_t, ng_e, r1, e41]
      · rw [cntB_f (p := fun i => evN A P Q S W F G B ns (v + i) == ez) (by show (_ == ez) = false; rw [ee]; exact beq_eq_false_iff_ne.mpr hx)]
  · rintro _ ⟨g, rfl, fg⟩
    exact ⟨_, by simp (disch := first | assumption | omega | decide | ((repeat first | apply lyI | apply lyJ | apply lywI | apply lywJ | apply csI | apply csJ | apply cswI | apply cswJ); assumption)) only [f_X12_tally_b70, LI, ↓li_m1, nI_add, pk_mul, nn_sub, nn_m1, nn_div, nn_rem, nn_nz, nn_mod, nJ_l, lN_add, lN_mul, nn_tb1, nI_bt, nn_and, nn_or, nn_xor, nn_shr, nn_1shl, nn_31, il_p, il_n, it_p, it_n, ie_p, ie_n, ie_b, ie_b1, ie_m, ie_mm, it_m, it_m0, il_m0, bI_rZ, Option.bind_some, bd2_some, Nat.add_zero, Nat.zero_add, if_true, if_false, Bool.false_eq_true, eq_self, hI_R, hJ_R, ng_t, ng_e], g, rfl, fg⟩
theorem o_tally {h : aH} {c : Nat} {A : Nat → Nat} {P : Nat → Bool} {Q : Nat → Nat → Bool} {S : Nat → Nat → Nat → Nat → Nat} {n d : Nat} {M : Nat → Nat → Nat} (ko : KO h c A P Q S n d M) (ro : RO h A P Q S n d M) {p : Nat} (hp14 : p = 14 ∨ p = 20) (hp : h.2.2.2 0 12 = some p) (pl : PLo h p 0 A) (sa : SA h) (x y z : Int32) : SI h (fun g => f_X11_tally g 0 x y z) (fun g => f_X12_tally g 113 x y z) := by
  obtain ⟨hs, hc, hw, hl, hf, hm, mw, hr, hn⟩ := id ko
  obtain ⟨b0, b1, b2l, b2, b3, b4⟩ := wf_b hw
  obtain ⟨mn, md, mk, mi⟩ := id mw
  obtain ⟨⟨e0, e1, e2, e15, e3, e4, em⟩, -⟩ := id hc
  have hm4 : h.2.1 53 4 = nI n := hm.1
  have hm5 : h.2.1 53 5 = nI d := hm.2.1
  rcases neg_or x with hx | ⟨v, v1, rfl⟩
  · have i1 := isF_n (h := hI h 0 17 (nI 1)) (lo := 0) (hi := 9999) hx (by decide)
    exact si_no sa (w := nI 1) (by simp (disch := first | assumption | omega | decide | ((repeat first | apply lyI | apply lyJ | apply lywI | apply lywJ | apply csI | apply csJ | apply cswI | apply cswJ); assumption)) only [f_X11_tally, f_X11_tally_j40, f_X11_below, f_X11_refuse, S0, LI, ↓li_m1, nI_add, pk_mul, nn_sub, nn_m1, nn_div, nn_rem, nn_nz, nn_mod, nJ_l, lN_add, lN_mul, nn_tb1, nI_bt, nn_and, nn_or, nn_xor, nn_shr, nn_1shl, nn_31, il_p, il_n, it_p, it_n, ie_p, ie_n, ie_b, ie_b1, ie_m, ie_mm, it_m, it_m0, il_m0, bI_rZ, Option.bind_some, bd2_some, Nat.add_zero, Nat.zero_add, if_true, if_false, Bool.false_eq_true, eq_self, hI_R, hJ_R, ng_t, ng_e]) (by simp (disch := first | assumption | omega | decide | ((repeat first | apply lyI | apply lyJ | apply lywI | apply lywJ | apply csI | apply csJ | apply cswI | apply cswJ); assumption)) only [f_X12_tally, f_X12_tally_j44, f_X12_refuse, SM, LI, ↓li_m1, nI_add, pk_mul, nn_sub, nn_m1, nn_div, nn_rem, nn_nz, nn_mod, nJ_l, lN_add, lN_mul, nn_tb1, nI_bt, nn_and, nn_or, nn_xor, nn_shr, nn_1shl, nn_31, il_p, il_n, it_p, it_n, ie_p, ie_n, ie_b, ie_b1, ie_m, ie_mm, it_m, it_m0, il_m0, bI_rZ, Option.bind_some, bd2_some, Nat.add_zero, Nat.zero_add, if_true, if_false, Bool.false_eq_true, eq_self, hI_R, hJ_R, ng_t, ng_e, i1])
  rcases (Nat.lt_or_ge v 10000).symm with vb | vb
  · have i1 : f_X12_isFrom (hI h 0 17 (nI 1)) (nI v).toInt64 (0 : Int64) (9999 : Int64) = some (nI 0) := by
      have := isF_p (h := hI h 0 17 (nI 1)) (lo := 0) (hi := 9999) v1 (by decide) (by decide)
      rw [decide_eq_false (show ¬ v ≤ 9999 by omega), Bool.and_false] at this
      exact this
    exact si_no sa (w := nI 1) (by simp (disch := first | assumption | omega | decide | ((repeat first | apply lyI | apply lyJ | apply lywI | apply lywJ | apply csI | apply csJ | apply cswI | apply cswJ); assumption)) only [f_X11_tally, f_X11_tally_j40, f_X11_below, f_X11_refuse, S0, LI, ↓li_m1, nI_add, pk_mul, nn_sub, nn_m1, nn_div, nn_rem, nn_nz, nn_mod, nJ_l, lN_add, lN_mul, nn_tb1, nI_bt, nn_and, nn_or, nn_xor, nn_shr, nn_1shl, nn_31, il_p, il_n, it_p, it_n, ie_p, ie_n, ie_b, ie_b1, ie_m, ie_mm, it_m, it_m0, il_m0, bI_rZ, Option.bind_some, bd2_some, Nat.add_zero, Nat.zero_add, if_true, if_false, Bool.false_eq_true, eq_self, hI_R, hJ_R, ng_t, ng_e]) (by simp (disch := first | assumption | omega | decide | ((repeat first | apply lyI | apply lyJ | apply lywI | apply lywJ | apply csI | apply csJ | apply cswI | apply cswJ); assumption)) only [f_X12_tally, f_X12_tally_j44, f_X12_refuse, SM, LI, ↓li_m1, nI_add, pk_mul, nn_sub, nn_m1, nn_div, nn_rem, nn_nz, nn_mod, lN_add, lN_mul, nn_tb1, nI_bt, nn_and, nn_or, nn_xor, nn_shr, nn_1shl, nn_31, il_p, il_n, it_p, it_n, ie_p, ie_n, ie_b, ie_b1, ie_m, ie_mm, it_m, it_m0, il_m0, bI_rZ, Option.bind_some, bd2_some, Nat.add_zero, Nat.zero_add, if_true, if_false, Bool.false_eq_true, eq_self, hI_R, hJ_R, ng_t, ng_e, i1])
  have i1 : ∀ k, f_X12_isFrom k (nI v).toInt64 (0 : Int64) (9999 : Int64) = some (nI 1) := fun k => by
    have := isF_p (h := k) (lo := 0) (hi := 9999) v1 (by decide) (by decide)
    rw [decide_eq_true (show v ≤ 9999 by omega), decide_eq_true (Nat.zero_le v)] at this
    exact this
  rcases neg_or y with hy | ⟨m, mm1, rfl⟩
  · have y1 : y < nI 1 := Int32.lt_trans hy (by decide)
    have i2 := isF_n (h := hI h 0 17 (nI 1)) (lo := 1) (hi := 30) hy (by decide)
    exact si_no sa (w := nI 1) (by simp (disch := first | assumption | omega | decide | ((repeat first | apply lyI | apply lyJ | apply lywI | apply lywJ | apply csI | apply csJ | apply cswI | apply cswJ); assumption)) only [f_X11_tally, f_X11_tally_j40, f_X11_below, f_X11_refuse, S0, LI, ↓li_m1, nI_add, pk_mul, nn_sub, nn_m1, nn_div, nn_rem, nn_nz, nn_mod, nJ_l, lN_add, lN_mul, nn_tb1, nI_bt, nn_and, nn_or, nn_xor, nn_shr, nn_1shl, nn_31, il_p, il_n, it_p, it_n, ie_p, ie_n, ie_b, ie_b1, ie_m, ie_mm, it_m, it_m0, il_m0, bI_rZ, Option.bind_some, bd2_some, Nat.add_zero, Nat.zero_add, if_true, if_false, Bool.false_eq_true, eq_self, hI_R, hJ_R, ng_t, ng_e, if_pos y1]) (by simp (disch := first | assumption | omega | decide | ((repeat first | apply lyI | apply lyJ | apply lywI | apply lywJ | apply csI | apply csJ | apply cswI | apply cswJ); assumption)) only [f_X12_tally, f_X12_tally_j44, f_X12_refuse, SM, LI, ↓li_m1, nI_add, pk_mul, nn_sub, nn_m1, nn_div, nn_rem, nn_nz, nn_mod, lN_add, lN_mul, nn_tb1, nI_bt, nn_and, nn_or, nn_xor, nn_shr, nn_1shl, nn_31, il_p, il_n, it_p, it_n, ie_p, ie_n, ie_b, ie_b1, ie_m, ie_mm, it_m, it_m0, il_m0, bI_rZ, Option.bind_some, bd2_some, Nat.add_zero, Nat.zero_add, if_true, if_false, Bool.false_eq_true, eq_self, hI_R, hJ_R, ng_t, ng_e, i1, i2])
  have ip : ∀ k, f_X12_isFrom k (nI m).toInt64 (1 : Int64) (30 : Int64) = some (bI (decide (1 ≤ m) && decide (m ≤ 30))) := fun k => isF_p (h := k) (lo := 1) (hi := 30) mm1 (by decide) (by decide)
  by_cases m0 : m = 0
  · subst m0
    have i2 : ∀ k, f_X12_isFrom k (nI 0).toInt64 (1 : Int64) (30 : Int64) = some (nI 0) := ip
    exact si_no sa (w := nI 1) (by simp (disch := first | assumption | omega | decide | ((repeat first | apply lyI | apply lyJ | apply lywI | apply lywJ | apply csI | apply csJ | apply cswI | apply cswJ); assumption)) only [f_X11_tally, f_X11_tally_j40, f_X11_below, f_X11_refuse, S0, LI, ↓li_m1, nI_add, pk_mul, nn_sub, nn_m1, nn_div, nn_rem, nn_nz, nn_mod, nJ_l, lN_add, lN_mul, nn_tb1, nI_bt, nn_and, nn_or, nn_xor, nn_shr, nn_1shl, nn_31, il_p, il_n, it_p, it_n, ie_p, ie_n, ie_b, ie_b1, ie_m, ie_mm, it_m, it_m0, il_m0, bI_rZ, Option.bind_some, bd2_some, Nat.add_zero, Nat.zero_add, if_true, if_false, Bool.false_eq_true, eq_self, hI_R, hJ_R, ng_t, ng_e]) (by simp (disch := first | assumption | omega | decide | ((repeat first | apply lyI | apply lyJ | apply lywI | apply lywJ | apply csI | apply csJ | apply cswI | apply cswJ); assumption)) only [f_X12_tally, f_X12_tally_j44, f_X12_refuse, SM, LI, ↓li_m1, nI_add, pk_mul, nn_sub, nn_m1, nn_div, nn_rem, nn_nz, nn_mod, lN_add, lN_mul, nn_tb1, nI_bt, nn_and, nn_or, nn_xor, nn_shr, nn_1shl, nn_31, il_p, il_n, it_p, it_n, ie_p, ie_n, ie_b, ie_b1, ie_m, ie_mm, it_m, it_m0, il_m0, bI_rZ, Option.bind_some, bd2_some, Nat.add_zero, Nat.zero_add, if_true, if_false, Bool.false_eq_true, eq_self, hI_R, hJ_R, ng_t, ng_e, i1, i2])
  rcases (Nat.lt_or_ge m 31).symm with mb | mb
  · have i2 : ∀ k, f_X12_isFrom k (nI m).toInt64 (1 : Int64) (30 : Int64) = some (nI 0) := fun k => by
      have := ip k
      rw [decide_eq_false (show ¬ m ≤ 30 by omega), Bool.and_false] at this
      exact this
    exact si_no sa (w := nI 1) (by simp (disch := first | assumption | omega | decide | ((repeat first | apply lyI | apply lyJ | apply lywI | apply lywJ | apply csI | apply csJ | apply cswI | apply cswJ); assumption)) only [f_X11_tally, f_X11_tally_j40, f_X11_below, f_X11_refuse, S0, LI, ↓li_m1, nI_add, pk_mul, nn_sub, nn_m1, nn_div, nn_rem, nn_nz, nn_mod, nJ_l, lN_add, lN_mul, nn_tb1, nI_bt, nn_and, nn_or, nn_xor, nn_shr, nn_1shl, nn_31, il_p, il_n, it_p, it_n, ie_p, ie_n, ie_b, ie_b1, ie_m, ie_mm, it_m, it_m0, il_m0, bI_rZ, Option.bind_some, bd2_some, Nat.add_zero, Nat.zero_add, if_true, if_false, Bool.false_eq_true, eq_self, hI_R, hJ_R, ng_t, ng_e]) (by simp (disch := first | assumption | omega | decide | ((repeat first | apply lyI | apply lyJ | apply lywI | apply lywJ | apply csI | apply csJ | apply cswI | apply cswJ); assumption)) only [f_X12_tally, f_X12_tally_j44, f_X12_refuse, SM, LI, ↓li_m1, nI_add, pk_mul, nn_sub, nn_m1, nn_div, nn_rem, nn_nz, nn_mod, lN_add, lN_mul, nn_tb1, nI_bt, nn_and, nn_or, nn_xor, nn_shr, nn_1shl, nn_31, il_p, il_n, it_p, it_n, ie_p, ie_n, ie_b, ie_b1, ie_m, ie_mm, it_m, it_m0, il_m0, bI_rZ, Option.bind_some, bd2_some, Nat.add_zero, Nat.zero_add, if_true, if_false, Bool.false_eq_true, eq_self, hI_R, hJ_R, ng_t, ng_e, i1, i2])
  have i2 : ∀ k, f_X12_isFrom k (nI m).toInt64 (1 : Int64) (30 : Int64) = some (nI 1) := fun k => by
    have := ip k
    rw [decide_eq_true (show m ≤ 30 by omega), decide_eq_true (show 1 ≤ m by omega)] at this
    exact this
  rcases (Nat.lt_or_ge (v + m) 10001).symm with sb | sb
  · exact si_no sa (w := nI 1) (by simp (disch := first | assumption | omega | decide | ((repeat first | apply lyI | apply lyJ | apply lywI | apply lywJ | apply csI | apply csJ | apply cswI | apply cswJ); assumption)) only [f_X11_tally, f_X11_tally_j40, f_X11_below, f_X11_refuse, S0, LI, ↓li_m1, nI_add, pk_mul, nn_sub, nn_m1, nn_div, nn_rem, nn_nz, nn_mod, nJ_l, lN_add, lN_mul, nn_tb1, nI_bt, nn_and, nn_or, nn_xor, nn_shr, nn_1shl, nn_31, il_p, il_n, it_p, it_n, ie_p, ie_n, ie_b, ie_b1, ie_m, ie_mm, it_m, it_m0, il_m0, bI_rZ, Option.bind_some, bd2_some, Nat.add_zero, Nat.zero_add, if_true, if_false, Bool.false_eq_true, eq_self, hI_R, hJ_R, ng_t, ng_e]) (by simp (disch := first | assumption | omega | decide | ((repeat first | apply lyI | apply lyJ | apply lywI | apply lywJ | apply csI | apply csJ | apply cswI | apply cswJ); assumption)) only [f_X12_tally, f_X12_tally_j44, f_X12_refuse, SM, LI, ↓li_m1, nI_add, pk_mul, nn_sub, nn_m1, nn_div, nn_rem, nn_nz, nn_mod, lN_add, lN_mul, nn_tb1, nI_bt, nn_and, nn_or, nn_xor, nn_shr, nn_1shl, nn_31, il_p, il_n, it_p, it_n, ie_p, ie_n, ie_b, ie_b1, ie_m, ie_mm, it_m, it_m0, il_m0, bI_rZ, Option.bind_some, bd2_some, Nat.add_zero, Nat.zero_add, if_true, if_false, Bool.false_eq_true, eq_self, hI_R, hJ_R, ng_t, ng_e, i1, i2])
  rcases neg_or z with hz | ⟨ez, ez1, rfl⟩
  · exact si_no sa (w := nI 1) (by simp (disch := first | assumption | omega | decide | ((repeat first | apply lyI | apply lyJ | apply lywI | apply lywJ | apply csI | apply csJ | apply cswI | apply cswJ); assumption)) only [f_X11_tally, f_X11_tally_j40, f_X11_below, f_X11_refuse, S0, LI, ↓li_m1, nI_add, pk_mul, nn_sub, nn_m1, nn_div, nn_rem, nn_nz, nn_mod, nJ_l, lN_add, lN_mul, nn_tb1, nI_bt, nn_and, nn_or, nn_xor, nn_shr, nn_1shl, nn_31, il_p, il_n, it_p, it_n, ie_p, ie_n, ie_b, ie_b1, ie_m, ie_mm, it_m, it_m0, il_m0, bI_rZ, Option.bind_some, bd2_some, Nat.add_zero, Nat.zero_add, if_true, if_false, Bool.false_eq_true, eq_self, hI_R, hJ_R, ng_t, ng_e]) (by simp (disch := first | assumption | omega | decide | ((repeat first | apply lyI | apply lyJ | apply lywI | apply lywJ | apply csI | apply csJ | apply cswI | apply cswJ); assumption)) only [f_X12_tally, f_X12_tally_j44, f_X12_refuse, SM, LI, ↓li_m1, nI_add, pk_mul, nn_sub, nn_m1, nn_div, nn_rem, nn_nz, nn_mod, lN_add, lN_mul, nn_tb1, nI_bt, nn_and, nn_or, nn_xor, nn_shr, nn_1shl, nn_31, il_p, il_n, it_p, it_n, ie_p, ie_n, ie_b, ie_b1, ie_m, ie_mm, it_m, it_m0, il_m0, bI_rZ, Option.bind_some, bd2_some, Nat.add_zero, Nat.zero_add, if_true, if_false, Bool.false_eq_true, eq_self, hI_R, hJ_R, ng_t, ng_e, i1, i2])
  rcases (Nat.lt_or_ge ez 3).symm with eb | eb
  · exact si_no sa (w := nI 1) (by simp (disch := first | assumption | omega | decide | ((repeat first | apply lyI | apply lyJ | apply lywI | apply lywJ | apply csI | apply csJ | apply cswI | apply cswJ); assumption)) only [f_X11_tally, f_X11_tally_j40, f_X11_below, f_X11_refuse, S0, LI, ↓li_m1, nI_add, pk_mul, nn_sub, nn_m1, nn_div, nn_rem, nn_nz, nn_mod, nJ_l, lN_add, lN_mul, nn_tb1, nI_bt, nn_and, nn_or, nn_xor, nn_shr, nn_1shl, nn_31, il_p, il_n, it_p, it_n, ie_p, ie_n, ie_b, ie_b1, ie_m, ie_mm, it_m, it_m0, il_m0, bI_rZ, Option.bind_some, bd2_some, Nat.add_zero, Nat.zero_add, if_true, if_false, Bool.false_eq_true, eq_self, hI_R, hJ_R, ng_t, ng_e]) (by simp (disch := first | assumption | omega | decide | ((repeat first | apply lyI | apply lyJ | apply lywI | apply lywJ | apply csI | apply csJ | apply cswI | apply cswJ); assumption)) only [f_X12_tally, f_X12_tally_j44, f_X12_refuse, SM, LI, ↓li_m1, nI_add, pk_mul, nn_sub, nn_m1, nn_div, nn_rem, nn_nz, nn_mod, lN_add, lN_mul, nn_tb1, nI_bt, nn_and, nn_or, nn_xor, nn_shr, nn_1shl, nn_31, il_p, il_n, it_p, it_n, ie_p, ie_n, ie_b, ie_b1, ie_m, ie_mm, it_m, it_m0, il_m0, bI_rZ, Option.bind_some, bd2_some, Nat.add_zero, Nat.zero_add, if_true, if_false, Bool.false_eq_true, eq_self, hI_R, hJ_R, ng_t, ng_e, i1, i2])
  have cle := cntB_le P (A 2)
  have no : f_X11_canSit h 0 = some (nI 0) → f_X12_canSit (hI h 0 17 (nI 6)) 113 = some (nI 0) → SI h (fun g => f_X11_tally g 0 (nI v) (nI m) (nI ez)) (fun g => f_X12_tally g 113 (nI v) (nI m) (nI ez)) := fun a b =>
    si_no sa (w := nI 6) (by simp (disch := first | assumption | omega | decide | ((repeat first | apply lyI | apply lyJ | apply lywI | apply lywJ | apply csI | apply csJ | apply cswI | apply cswJ); assumption)) only [f_X11_tally, f_X11_tally_j40, f_X11_below, f_X11_refuse, S0, LI, ↓li_m1, nI_add, pk_mul, nn_sub, nn_m1, nn_div, nn_rem, nn_nz, nn_mod, nJ_l, lN_add, lN_mul, nn_tb1, nI_bt, nn_and, nn_or, nn_xor, nn_shr, nn_1shl, nn_31, il_p, il_n, it_p, it_n, ie_p, ie_n, ie_b, ie_b1, ie_m, ie_mm, it_m, it_m0, il_m0, bI_rZ, Option.bind_some, bd2_some, Nat.add_zero, Nat.zero_add, if_true, if_false, Bool.false_eq_true, eq_self, hI_R, hJ_R, ng_t, ng_e, a]) (by simp (disch := first | assumption | omega | decide | ((repeat first | apply lyI | apply lyJ | apply lywI | apply lywJ | apply csI | apply csJ | apply cswI | apply cswJ); assumption)) only [f_X12_tally, f_X12_tally_j44, f_X12_refuse, SM, LI, ↓li_m1, nI_add, pk_mul, nn_sub, nn_m1, nn_div, nn_rem, nn_nz, nn_mod, lN_add, lN_mul, nn_tb1, nI_bt, nn_and, nn_or, nn_xor, nn_shr, nn_1shl, nn_31, il_p, il_n, it_p, it_n, ie_p, ie_n, ie_b, ie_b1, ie_m, ie_mm, it_m, it_m0, il_m0, bI_rZ, Option.bind_some, bd2_some, Nat.add_zero, Nat.zero_add, if_true, if_false, Bool.false_eq_true, eq_self, hI_R, hJ_R, ng_t, ng_e, i1, i2, b])
  have ro6 : RO (hI h 0 17 (nI 6)) A P Q S n d M := ro
  rcases pl with ⟨pz, rz⟩ | ⟨K, N, W, F, G, B, ns, p7, pc, pw, pr, pk⟩
  · exact no (c_can hl hs hn hp14 hp (m := cntB P (A 2)) (by omega) e15 (b := false) pz) (r_can ro6.1 ro6.2.1 hw (b := false) (N := 0) (by decide) rz)
  have n60 := pk.2.1
  by_cases hz : cntB P (A 2) = 0
  · have a := c_can hl hs hn hp14 hp (m := cntB P (A 2)) (by omega) e15 (b := true) p7
    have b := r_can ro6.1 ro6.2.1 hw (b := true) (N := N) n60 (show h.2.1 114 7 = nI N from (pr_0 pr).1)
    rw [hz] at a b
    exact no a b
  have a := c_can hl hs hn hp14 hp (m := cntB P (A 2)) (by omega) e15 (b := true) p7
  rw [decide_eq_true (show 0 < cntB P (A 2) by omega)] at a
  have a' : f_X11_canSit h 0 = some (nI 1) := a
  obtain ⟨_, r1, g, x0, rfl, f1⟩ := x_tally hp14 hs hc hw hl hn hp hz (v := v) (m := m) (ez := ez) (by omega) (by omega) (by omega) pc pw
  have lg := f1.lay (lay_R hl)
  have fc : FR (hR h 68 4 x0) (hI g 0 17 (nI 0)) SCI [] [16, 17] [3, 39, 40, 41, 45] := (f1.mono (by decide) (by decide) (by decide) (by decide)).tr (fr_0 (by decide))
  have ro2 := ro_fr fc (by decide) (by decide) (by decide) (ro_R ro (x := x0))
  obtain ⟨l2, c2, -, m2, -, s2⟩ := id ro2
  have k114 : (hI g 0 17 (nI 0)).2.1 114 = h.2.1 114 := fc.I 114 (by decide) (by decide) (by decide)
  have pr2 : PR (hI g 0 17 (nI 0)) K N := by
    unfold PR
    rw [k114]
    exact pr_0 pr
  have b := r_can l2 c2 hw (b := true) (N := N) n60 (by rw [k114]; exact (pr_0 pr).1)
  rw [decide_eq_true (show 0 < cntB P (A 2) by omega)] at b
  have b' : f_X12_canSit (hI g 0 17 (nI 0)) 113 = some (nI 1) := b
  obtain ⟨_, r2, k, rfl, f2⟩ := r_tally l2 c2 hw m2 mw s2 hz (v := v) (m := m) (ez := ez) (by omega) (by omega) (by omega) pr2 pk
  have lk := f2.lay l2
  have ff := (fc.tr (f2.mono (by decide) (by decide) (by decide) (by decide))).tr (fr_1 (k := 3) (x := nI 0) (by decide))
  refine ⟨nI (cntB (fun i => evN A P Q S W F G B ns (v + i) == ez) m), hI g 0 17 (nI 0), hI k 113 3 (nI 0), x0, ?_, ?_, ff, ?_, ?_⟩
  · simp (disch := first | assumption | omega | decide | ((repeat first | apply lyI | apply lyJ | apply lywI | apply lywJ | apply csI | apply csJ | apply cswI | apply cswJ); assumption)) only [f_X11_tally, f_X11_below, f_X11_give, S0, LI, ↓li_m1, nI_add, pk_mul, nn_sub, nn_m1, nn_div, nn_rem, nn_nz, nn_mod, nJ_l, lN_add, lN_mul, nn_tb1, nI_bt, nn_and, nn_or, nn_xor, nn_shr, nn_1shl, nn_31, il_p, il_n, it_p, it_n, ie_p, ie_n, ie_b, ie_b1, ie_m, ie_mm, it_m, it_m0, il_m0, bI_rZ, Option.bind_some, bd2_some, Nat.add_zero, Nat.zero_add, if_true, if_false, Bool.false_eq_true, eq_self, hI_R, hJ_R, ng_t, ng_e, a', r1]
  · simp (disch := first | assumption | omega | decide | ((repeat first | apply lyI | apply lyJ | apply lywI | apply lywJ | apply csI | apply csJ | apply cswI | apply cswJ); assumption)) only [f_X12_tally, f_X12_gives, SM, LI, ↓li_m1, nI_add, pk_mul, nn_sub, nn_m1, nn_div, nn_rem, nn_nz, nn_mod, lN_add, lN_mul, nn_tb1, nI_bt, nn_and, nn_or, nn_xor, nn_shr, nn_1shl, nn_31, il_p, il_n, it_p, it_n, ie_p, ie_n, ie_b, ie_b1, ie_m, ie_mm, it_m, it_m0, il_m0, bI_rZ, Option.bind_some, bd2_some, Nat.add_zero, Nat.zero_add, if_true, if_false, Bool.false_eq_true, eq_self, hI_R, hJ_R, ng_t, ng_e, i1, i2, b', r2]
  · unfold ST
    rw [rI_eq, rI_ne (by decide), f2.2.2.2.2.1 17 List.not_mem_nil, rI_eq]
  · have fa : FR (hR h 68 4 x0) (hI k 113 3 (nI 0)) (L66 ++ [129, 130, 132, 133, 134]) [] [17] [3, 39, 40, 41] := (((f1.mono (by decide) (by decide) (by decide) (by decide)).tr (fr_0 (by decide))).tr (f2.mono (by decide) (by decide) (by decide) (by decide))).tr (fr_1 (by decide))
    exact sa_fr fa (by decide) (by decide) (by decide) (by decide) (show SA (hR h 68 4 x0) from sa)
