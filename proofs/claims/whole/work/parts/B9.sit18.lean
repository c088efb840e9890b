/-! ===== sit, on ===== -/
theorem h8_13 {h h' : aH} {c : Nat} {A : Nat → Nat} {P : Nat → Bool} {Q : Nat → Nat → Bool} {S : Nat → Nat → Nat → Nat → Nat} {t : MT} (hf : FR h h' [13] [] [] []) (h8 : H8 h c A P Q S t) : H8 h' c A P Q S t := by
  obtain ⟨hs, hc, hl, hr4, hm, hr⟩ := h8
  refine ⟨cs_fr hf hs, cc_fr hf (by decide) hs hc, hf.lay hl, by rw [hf.2.1]; exact hr4, ?_, ?_⟩
  · unfold MN
    rw [hf.I 69 (by decide) (by decide) (by decide), hf.I (69 + 1) (by decide) (by decide) (by decide), hf.I (69 + 2) (by decide) (by decide) (by decide), hf.I (69 + 3) (by decide) (by decide) (by decide), hf.I (69 + 4) (by decide) (by decide) (by decide)]
    exact hm
  · unfold HR
    rw [hf.I 68 (by decide) (by decide) (by decide), hf.I (68 + 6) (by decide) (by decide) (by decide), hf.I (68 + 7) (by decide) (by decide) (by decide)]
    exact hr
theorem r_last {h : aH} (hl : LAY h) : f_X12_sit_l39 113 (nI 0) h = some (wI h 135 (setF (h.2.1 135) 0 6 (fun k => h.2.1 134 k))) := by
  refine for0 (body := fun zz : Int32 × aH => f_X12_sit_b39 113 zz.1 zz.2) (fun j => (nI j, wI h 135 (setF (h.2.1 135) 0 j (fun k => h.2.1 134 k)))) (6) (e := wI h 135 (setF (h.2.1 135) 0 6 (fun k => h.2.1 134 k))) (by rw [setF_0, wI_self]) (by omega) (fun j hj => ?_) ?_
  · rw [← setF_s0, ← hI_set]
    simp (disch := first | assumption | omega | decide | ((repeat first | apply lyI | apply lyJ | apply lywI | apply lywJ | apply csI | apply csJ | apply cswI | apply cswJ); assumption)) only [f_X12_sit_b39, SM, LI, ↓li_m1, nI_add, pk_mul, nn_sub, nn_m1, nn_div, nn_rem, nn_nz, nn_mod, nJ_l, lN_add, lN_mul, nn_tb1, nI_bt, nn_and, nn_or, nn_xor, nn_shr, nn_1shl, nn_31, il_p, il_n, it_p, it_n, ie_p, ie_n, ie_b, ie_b1, ie_m, ie_mm, it_m, it_m0, il_m0, bI_rZ, Option.bind_some, bd2_some, Nat.add_zero, Nat.zero_add, if_true, if_false, Bool.false_eq_true, eq_self, hI_R, hJ_R, ng_t, ng_e, wI_n]
  · simp (disch := first | assumption | omega | decide | ((repeat first | apply lyI | apply lyJ | apply lywI | apply lywJ | apply csI | apply csJ | apply cswI | apply cswJ); assumption)) only [f_X12_sit_b39, SM, LI, ↓li_m1, nI_add, pk_mul, nn_sub, nn_m1, nn_div, nn_rem, nn_nz, nn_mod, nJ_l, lN_add, lN_mul, nn_tb1, nI_bt, nn_and, nn_or, nn_xor, nn_shr, nn_1shl, nn_31, il_p, il_n, it_p, it_n, ie_p, ie_n, ie_b, ie_b1, ie_m, ie_mm, it_m, it_m0, il_m0, bI_rZ, Option.bind_some, bd2_some, Nat.add_zero, Nat.zero_add, if_true, if_false, Bool.false_eq_true, eq_self, hI_R, hJ_R, ng_t, ng_e]
/-- the class keeps what is told -/
theorem x_tell {h : aH} {c : Nat} {A : Nat → Nat} {P : Nat → Bool} {Q : Nat → Nat → Bool} {S : Nat → Nat → Nat → Nat → Nat} {t : MT} (h8 : H8 h c A P Q S t) (hw : WF A) (gm : GM A t) {tr : Nat} {tk : Nat → Nat} (e2 : h.2.1 66 2 = nI tr) (e67 : ∀ v, v < A 4 → h.2.1 67 v = nI (tk v)) (htk : ∀ v, v < A 4 → tk v < 4) : ∃ g, FR h g [13] [] [] [] ∧ (∀ j, j < 6 → g.2.1 13 j = nI (tlN A P S tr tk t j)) ∧ f_X3_costs (hI h 13 0 (nI t.1)) 68 = some (nI (feN A t.2.2 t.1)) ∧ f_X10_dishonest (hI (hI (hI (hI (hI h 13 0 (nI t.1)) 13 1 (nI (feN A t.2.2 t.1))) 13 2 (nI t.2.1)) 13 3 (nI tr)) 13 4 (nI (cntB (lvT A P S t) (A 2)))) 66 = some (nI (dhN tk (A 4))) ∧ g = hI (hI (hI (hI (hI (hI h 13 0 (nI t.1)) 13 1 (nI (feN A t.2.2 t.1))) 13 2 (nI t.2.1)) 13 3 (nI tr)) 13 4 (nI (cntB (lvT A P S t) (A 2)))) 13 5 (nI (dhN tk (A 4))) := by
  obtain ⟨b0, b1, b2l, b2, b3, b4⟩ := wf_b hw
  have f1 : FR h (hI h 13 0 (nI t.1)) [13] [] [] [] := FR.hI (by decide) (by decide) (by decide)
  have f5 : FR h (hI (hI (hI (hI (hI h 13 0 (nI t.1)) 13 1 (nI (feN A t.2.2 t.1))) 13 2 (nI t.2.1)) 13 3 (nI tr)) 13 4 (nI (cntB (lvT A P S t) (A 2)))) [13] [] [] [] := ((((FR.hI (by decide) (by decide) (by decide)).tr (FR.hI (by decide) (by decide) (by decide))).tr (FR.hI (by decide) (by decide) (by decide))).tr (FR.hI (by decide) (by decide) (by decide))).tr (FR.hI (by decide) (by decide) (by decide))
  obtain ⟨s1, c1, l1, r1, m1', h1⟩ := h8_13 f1 h8
  obtain ⟨s5, c5, l5, r5, m5, h5⟩ := h8_13 f5 h8
  have e4 := c5.1.2.2.2.2.2.1
  refine ⟨_, f5.tr (FR.hI (by decide) (by decide) (by decide)), fun j hj => ?_, k_costs68 s1 c1 hw l1 r1 m1' gm.1 h1, x_dish l5 s5 r5 b4 e4 (fun v hv => by rw [f5.I 67 (by decide) (by decide) (by decide)]; exact e67 v hv) htk, rfl⟩
  rcases lt6 hj with rfl | rfl | rfl | rfl | rfl | rfl
  · rw [rI_nk (by decide), rI_nk (by decide), rI_nk (by decide), rI_nk (by decide), rI_nk (by decide), rI_eq]
    rfl
  · rw [rI_nk (by decide), rI_nk (by decide), rI_nk (by decide), rI_nk (by decide), rI_eq]
    rfl
  · rw [rI_nk (by decide), rI_nk (by decide), rI_nk (by decide), rI_eq]
    rfl
  · rw [rI_nk (by decide), rI_nk (by decide), rI_eq]
    rfl
  · rw [rI_nk (by decide), rI_eq]
    rfl
  · rw [rI_eq]
    rfl
theorem o_sit {h : aH} {c : Nat} {A : Nat → Nat} {P : Nat → Bool} {Q : Nat → Nat → Bool} {S : Nat → Nat → Nat → Nat → Nat} {n d : Nat} {M : Nat → Nat → Nat} (ko : KO h c A P Q S n d M) (ro : RO h A P Q S n d M) {p : Nat} (hp14 : p = 14 ∨ p = 20) (hp : h.2.2.2 0 12 = some p) (pl : PLo h p 0 A) (sa : SA h) (x : Int32) : SI h (fun g => f_X11_sit g 0 x) (fun g => f_X12_sit g 113 x) := by
  obtain ⟨hs, hc, hw, hl, hf, hm, mw, hr, hn⟩ := id ko
  obtain ⟨b0, b1, b2l, b2, b3, b4⟩ := wf_b hw
  obtain ⟨mn, md, mk, mi⟩ := id mw
  obtain ⟨⟨e0, e1, e2, e15, e3, e4, em⟩, -⟩ := id hc
  have hm4 : h.2.1 53 4 = nI n := hm.1
  have hm5 : h.2.1 53 5 = nI d := hm.2.1
  have bad : ∀ x : Int32, (x < nI 0 ∨ ∃ v, v < 2147483648 ∧ x = nI v ∧ 10000 ≤ v) → SI h (fun g => f_X11_sit g 0 x) (fun g => f_X12_sit g 113 x) := fun x hx => by
    rcases hx with hx | ⟨v, v1, rfl, v2⟩
    · have i1 := isF_n (h := hI h 0 17 (nI 1)) (lo := 0) (hi := 9999) hx (by decide)
      exact si_no sa (w := nI 1) (by simp (disch := first | assumption | omega | decide | ((repeat first | apply lyI | apply lyJ | apply lywI | apply lywJ | apply csI | apply csJ | apply cswI | apply cswJ); assumption)) only [f_X11_sit, f_X11_below, f_X11_refuse, S0, LI, ↓li_m1, nI_add, pk_mul, nn_sub, nn_m1, nn_div, nn_rem, nn_nz, nn_mod, nJ_l, lN_add, lN_mul, nn_tb1, nI_bt, nn_and, nn_or, nn_xor, nn_shr, nn_1shl, nn_31, il_p, il_n, it_p, it_n, ie_p, ie_n, ie_b, ie_b1, ie_m, ie_mm, it_m, it_m0, il_m0, bI_rZ, Option.bind_some, bd2_some, Nat.add_zero, Nat.zero_add, if_true, if_false, Bool.false_eq_true, eq_self, hI_R, hJ_R, ng_t, ng_e]) (by simp (disch := first | assumption | omega | decide | ((repeat first | apply lyI | apply lyJ | apply lywI | apply lywJ | apply csI | apply csJ | apply cswI | apply cswJ); assumption)) only [f_X12_sit, f_X12_refuse, SM, LI, ↓li_m1, nI_add, pk_mul, nn_sub, nn_m1, nn_div, nn_rem, nn_nz, nn_mod, nJ_l, lN_add, lN_mul, nn_tb1, nI_bt, nn_and, nn_or, nn_xor, nn_shr, nn_1shl, nn_31, il_p, il_n, it_p, it_n, ie_p, ie_n, ie_b, ie_b1, ie_m, ie_mm, it_m, it_m0, il_m0, bI_rZ, Option.bind_some, bd2_some, Nat.add_zero, Nat.zero_add, if_true, if_false, Bool.false_eq_true, eq_self, hI_R, hJ_R, ng_t, ng_e, i1])
    · have i1 : f_X12_isFrom (hI h 0 17 (nI 1)) (nI v).toInt64 (0 : Int64) (9999 : Int64) = some (nI 0) := by
        have := isF_p (h := hI h 0 17 (nI 1)) (lo := 0) (hi := 9999) v1 (by decide) (by decide)
        rw [decide_eq_false (show ¬ v ≤ 9999 by omega), Bool.and_false] at this
        exact this
      exact si_no sa (w := nI 1) (by simp (disch := first | assumption | omega | decide | ((repeat first | apply lyI | apply lyJ | apply lywI | apply lywJ | apply csI | apply csJ | apply cswI | apply cswJ); assumption)) only [f_X11_sit, f_X11_below, f_X11_refuse, S0, LI, ↓li_m1, nI_add, pk_mul, nn_sub, nn_m1, nn_div, nn_rem, nn_nz, nn_mod, nJ_l, lN_add, lN_mul, nn_tb1, nI_bt, nn_and, nn_or, nn_xor, nn_shr, nn_1shl, nn_31, il_p, il_n, it_p, it_n, ie_p, ie_n, ie_b, ie_b1, ie_m, ie_mm, it_m, it_m0, il_m0, bI_rZ, Option.bind_some, bd2_some, Nat.add_zero, Nat.zero_add, if_true, if_false, Bool.false_eq_true, eq_self, hI_R, hJ_R, ng_t, ng_e]) (by simp (disch := first | assumption | omega | decide | ((repeat first | apply lyI | apply lyJ | apply lywI | apply lywJ | apply csI | apply csJ | apply cswI | apply cswJ); assumption)) only [f_X12_sit, f_X12_refuse, SM, LI, ↓li_m1, nI_add, pk_mul, nn_sub, nn_m1, nn_div, nn_rem, nn_nz, nn_mod, lN_add, lN_mul, nn_tb1, nI_bt, nn_and, nn_or, nn_xor, nn_shr, nn_1shl, nn_31, il_p, il_n, it_p, it_n, ie_p, ie_n, ie_b, ie_b1, ie_m, ie_mm, it_m, it_m0, il_m0, bI_rZ, Option.bind_some, bd2_some, Nat.add_zero, Nat.zero_add, if_true, if_false, Bool.false_eq_true, eq_self, hI_R, hJ_R, ng_t, ng_e, i1])
  rcases neg_or x with hx | ⟨v, v1, rfl⟩
  · exact bad x (Or.inl hx)
  rcases (Nat.lt_or_ge v 10000).symm with vb | vb
  · exact bad _ (Or.inr ⟨v, v1, rfl, vb⟩)
  have i1 : ∀ k, f_X12_isFrom k (nI v).toInt64 (0 : Int64) (9999 : Int64) = some (nI 1) := fun k => by
    have := isF_p (h := k) (lo := 0) (hi := 9999) v1 (by decide) (by decide)
    rw [decide_eq_true (show v ≤ 9999 by omega), decide_eq_true (Nat.zero_le v)] at this
    exact this
  have cle := cntB_le P (A 2)
  have no : f_X11_canSit h 0 = some (nI 0) → f_X12_canSit (hI h 0 17 (nI 6)) 113 = some (nI 0) → SI h (fun g => f_X11_sit g 0 (nI v)) (fun g => f_X12_sit g 113 (nI v)) := fun a b =>
    si_no sa (w := nI 6) (by simp (disch := first | assumption | omega | decide | ((repeat first | apply lyI | apply lyJ | apply lywI | apply lywJ | apply csI | apply csJ | apply cswI | apply cswJ); assumption)) only [f_X11_sit, f_X11_below, f_X11_refuse, S0, LI, ↓li_m1, nI_add, pk_mul, nn_sub, nn_m1, nn_div, nn_rem, nn_nz, nn_mod, nJ_l, lN_add, lN_mul, nn_tb1, nI_bt, nn_and, nn_or, nn_xor, nn_shr, nn_1shl, nn_31, il_p, il_n, it_p, it_n, ie_p, ie_n, ie_b, ie_b1, ie_m, ie_mm, it_m, it_m0, il_m0, bI_rZ, Option.bind_some, bd2_some, Nat.add_zero, Nat.zero_add, if_true, if_false, Bool.false_eq_true, eq_self, hI_R, hJ_R, ng_t, ng_e, a]) (by simp (disch := first | assumption | omega | decide | ((repeat first | apply lyI | apply lyJ | apply lywI | apply lywJ | apply csI | apply csJ | apply cswI | apply cswJ); assumption)) only [f_X12_sit, f_X12_refuse, SM, LI, ↓li_m1, nI_add, pk_mul, nn_sub, nn_m1, nn_div, nn_rem, nn_nz, nn_mod, lN_add, lN_mul, nn_tb1, nI_bt, nn_and, nn_or, nn_xor, nn_shr, nn_1shl, nn_31, il_p, il_n, it_p, it_n, ie_p, ie_n, ie_b, ie_b1, ie_m, ie_mm, it_m, it_m0, il_m0, bI_rZ, Option.bind_some, bd2_some, Nat.add_zero, Nat.zero_add, if_true, if_false, Bool.false_eq_true, eq_self, hI_R, hJ_R, ng_t, ng_e, i1, b])
  have ro6 : RO (hI h 0 17 (nI 6)) A P Q S n d M := ro
  rcases pl with ⟨pz, rz⟩ | ⟨K, N, W, F, G, B, ns, p7, pc, pw, pr, pk⟩
  · exact no (c_can hl hs hn hp14 hp (m := cntB P (A 2)) (by omega) e15 (b := false) pz) (r_can ro6.1 ro6.2.1 hw (b := false) (N := 0) (by decide) rz)
  have n60 := pk.2.1
  by_cases hz : cntB P (A 2) = 0
  · have a := c_can hl hs hn hp14 hp (m := cntB P (A 2)) (by omega) e15 (b := true) p7
    have b := r_can ro6.1 ro6.2.1 hw (b := true) (N := N) n60 (show h.2.1 114 7 = nI N from (pr_0 pr).1)
    rw [hz] at a b
    exact no a b
  have a := c_can hl hs hn hp14 hp (m := cntB P (A 2)) (by omega) e15 (b := true) p7
  rw [decide_eq_true (show 0 < cntB P (A 2) by omega)] at a
  obtain ⟨h', t, e, r1, f1, h8, gm, e2, e67, hrc⟩ := x_court hp14 hs hc hw hl hz (seed := v) (by omega) pc pw
  obtain ⟨g, f2, tl, rf, rd, eg⟩ := x_tell h8 hw gm e2 e67 (fun v hv => tk_lt hw hv)
  have l1 := h8.2.2.1
  have w4 : h'.2.1 69 4 = nI t.1 := h8.2.2.2.2.1.1
  have w5 : h'.2.1 69 5 = nI t.2.1 := h8.2.2.2.2.1.2.1
  have wl : h'.2.1 68 5 = nI (cntB (lvT A P S t) (A 2)) := h8.2.2.2.2.2.1
  have lg := f2.lay l1
  have fc : FR (hR h 68 4 (some c)) (hI (hI g 0 16 (bI true)) 0 17 (nI 0)) SCI [] [16, 17] [3, 39, 40, 41, 45] := (((f1.mono (by decide) (by decide) (by decide) (by decide)).tr (f2.mono (by decide) (by decide) (by decide) (by decide))).tr (fr_0 (by decide))).tr (fr_0 (by decide))
  have ro2 := ro_fr fc (by decide) (by decide) (by decide) (ro_R ro (x := some c))
  obtain ⟨l2, c2, -, m2, -, s2⟩ := id ro2
  have k114 : (hI (hI g 0 16 (bI true)) 0 17 (nI 0)).2.1 114 = h.2.1 114 := fc.I 114 (by decide) (by decide) (by decide)
  have pr2 : PR (hI (hI g 0 16 (bI true)) 0 17 (nI 0)) K N := by
    unfold PR
    rw [k114]
    exact pr_0 pr
  have b := r_can l2 c2 hw (b := true) (N := N) n60 (by rw [k114]; exact (pr_0 pr).1)
  rw [decide_eq_true (show 0 < cntB P (A 2) by omega)] at b
  obtain ⟨k1, t', e', r3, f3, gm', e41, hrc', tl'⟩ := r_sits l2 c2 hw m2 mw s2 hz (seed := v) (by omega) pr2 pk
  rw [hrc] at hrc'
  cases hrc'
  have l3 := f3.lay l2
  have r4 := r_last l3
  refine ⟨nI e, hI (hI g 0 16 (bI true)) 0 17 (nI 0), hI (hI (wI k1 135 (setF (k1.2.1 135) 0 6 (fun k => k1.2.1 134 k))) 113 45 (bI true)) 113 3 (nI 0), some c, ?_, ?_, ((fc.tr (f3.mono (by decide) (by decide) (by decide) (by decide))).tr (FR.wI (by decide) (by decide) (by decide))).tr ((fr_1 (by decide)).tr (fr_1 (by decide))), ?_, Or.inr ⟨?_, ?_, fun j hj => ?_⟩⟩
  · rw [eg]
    rcases hp14 with rfl | rfl
    · simp (disch := first | assumption | omega | decide | ((repeat first | apply lyI | apply lyJ | apply lywI | apply lywJ | apply csI | apply csJ | apply cswI | apply cswJ); assumption)) only [f_X11_sit, f_X11_below, f_X11_give, S0, SG, SH68, LI, ↓li_m1, nI_add, pk_mul, nn_sub, nn_m1, nn_div, nn_rem, nn_nz, nn_mod, nJ_l, lN_add, lN_mul, nn_tb1, nI_bt, nn_and, nn_or, nn_xor, nn_shr, nn_1shl, nn_31, il_p, il_n, it_p, it_n, ie_p, ie_n, ie_b, ie_b1, ie_m, ie_mm, it_m, it_m0, il_m0, bI_rZ, Option.bind_some, bd2_some, Nat.add_zero, Nat.zero_add, if_true, if_false, Bool.false_eq_true, eq_self, hI_R, hJ_R, ng_t, ng_e, a, hn, hp, r1, w4, w5, wl, e2, rf, rd, rI_ne]
      rfl
    · simp (disch := first | assumption | omega | decide | ((repeat first | apply lyI | apply lyJ | apply lywI | apply lywJ | apply csI | apply csJ | apply cswI | apply cswJ); assumption)) only [f_X11_sit, f_X11_below, f_X11_give, S0, SG, SH68, LI, ↓li_m1, nI_add, pk_mul, nn_sub, nn_m1, nn_div, nn_rem, nn_nz, nn_mod, nJ_l, lN_add, lN_mul, nn_tb1, nI_bt, nn_and, nn_or, nn_xor, nn_shr, nn_1shl, nn_31, il_p, il_n, it_p, it_n, ie_p, ie_n, ie_b, ie_b1, ie_m, ie_mm, it_m, it_m0, il_m0, bI_rZ, Option.bind_some, bd2_some, Nat.add_zero, Nat.zero_add, if_true, if_false, Bool.false_eq_true, eq_self, hI_R, hJ_R, ng_t, ng_e, a, hn, hp, r1, w4, w5, wl, e2, rf, rd, rI_ne]
      rfl
  · simp (disch := first | assumption | omega | decide | ((repeat first | apply lyI | apply lyJ | apply lywI | apply lywJ | apply csI | apply csJ | apply cswI | apply cswJ); assumption)) only [f_X12_sit, f_X12_gives, SM, rI_eq, rI_ne, rI_nk, rJ_eq, rJ_ne, rJ_nk, rI_J, rJ_I, LI, ↓li_m1, nI_add, pk_mul, nn_sub, nn_m1, nn_div, nn_rem, nn_nz, nn_mod, lN_add, lN_mul, nn_tb1, nI_bt, nn_and, nn_or, nn_xor, nn_shr, nn_1shl, nn_31, il_p, il_n, it_p, it_n, ie_p, ie_n, ie_b, ie_b1, ie_m, ie_mm, it_m, it_m0, il_m0, bI_rZ, Option.bind_some, bd2_some, Nat.add_zero, Nat.zero_add, if_true, if_false, Bool.false_eq_true, eq_self, hI_R, hJ_R, ng_t, ng_e, i1, b, r3, r4, e41, wI_n]
    rfl
  · unfold ST
    rw [rI_eq, rI_ne (by decide), rI_ne (by decide), wI_n (by decide), f3.2.2.2.2.1 17 List.not_mem_nil, rI_eq]
  · rw [rI_ne (by decide), rI_ne (by decide), wI_n (by decide), f3.2.2.2.2.1 16 List.not_mem_nil, rI_nk (by decide), rI_eq]
    rfl
  · rw [rI_nk (by decide), rI_eq]
    rfl
  · rw [rI_ne (by decide), rI_ne (by decide), wI_n (by decide), rI_ne (by decide), rI_ne (by decide), wI_s, setF_in0 hj, tl' j hj, f3.I 13 (by decide) (by decide) (by decide), rI_ne (by decide), rI_ne (by decide), tl j hj]
