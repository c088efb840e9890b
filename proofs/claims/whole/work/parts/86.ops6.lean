/-! ===== unsay, nextDay, shortest ===== -/
theorem mw_mono {A : Nat → Nat} {n d n' : Nat} {M : Nat → Nat → Nat} (mw : MW A n d M) (h : n' ≤ n) : MW A n' d M := ⟨by have := mw.1; omega, mw.2.1, fun k hk => mw.2.2.1 k (by omega), fun i j hi hj => mw.2.2.2 i j (by omega) (by omega)⟩
theorem o_unsay {h : aH} {c : Nat} {A : Nat → Nat} {P : Nat → Bool} {Q : Nat → Nat → Bool} {S : Nat → Nat → Nat → Nat → Nat} {n d : Nat} {M : Nat → Nat → Nat} (ko : KO h c A P Q S n d M) (ro : RO h A P Q S n d M) (di : DI n d M) (hd : d ≤ 99) : HO h c A P Q S (fun g => f_X11_unsay g 0) (fun g => f_X12_unsay g 113) := by
  obtain ⟨hs, hc, hw, hl, hf, hm, mw, hr, hn⟩ := id ko
  obtain ⟨b0, b1, b2l, b2, b3, b4⟩ := wf_b hw
  obtain ⟨mn, md, mk, mi⟩ := id mw
  obtain ⟨⟨e0, e1, e2, e15, e3, e4, em⟩, -⟩ := id hc
  have hm4 : h.2.1 53 4 = nI n := hm.1
  have hm5 : h.2.1 53 5 = nI d := hm.2.1
  by_cases h0 : n = 0
  · subst h0
    exact ho_qo ko ro di hd (qo_mk (r := m1) (w := nI 6) ro ⟨h, by simp (disch := first | assumption | omega | decide | ((repeat first | apply lyI | apply lyJ | apply lywI | apply lywJ | apply csI | apply csJ | apply cswI | apply cswJ); assumption)) only [f_X11_unsay, f_X11_refuse, S0, SH52, LI, ↓li_m1, nI_add, pk_mul, nn_sub, nn_m1, nn_div, nn_rem, nn_nz, nn_mod, nJ_l, lN_add, lN_mul, nn_tb1, nI_bt, nn_and, nn_or, nn_xor, nn_shr, nn_1shl, nn_31, il_p, il_n, it_p, it_n, ie_p, ie_n, ie_b, ie_b1, ie_m, ie_mm, it_m, it_m0, il_m0, bI_rZ, Option.bind_some, bd2_some, Nat.add_zero, Nat.zero_add, if_true, if_false, Bool.false_eq_true, eq_self, hI_R, hJ_R, ng_t, ng_e, hm4], FR.rf⟩ (fun k kl kc km ks => by
      obtain ⟨m5, m6, mM⟩ := id km
      exact ⟨k, by simp (disch := first | assumption | omega | decide | ((repeat first | apply lyI | apply lyJ | apply lywI | apply lywJ | apply csI | apply csJ | apply cswI | apply cswJ); assumption)) only [f_X12_unsay, f_X12_refuse, SM, LI, ↓li_m1, nI_add, pk_mul, nn_sub, nn_m1, nn_div, nn_rem, nn_nz, nn_mod, nJ_l, lN_add, lN_mul, nn_tb1, nI_bt, nn_and, nn_or, nn_xor, nn_shr, nn_1shl, nn_31, il_p, il_n, it_p, it_n, ie_p, ie_n, ie_b, ie_b1, ie_m, ie_mm, it_m, it_m0, il_m0, bI_rZ, Option.bind_some, bd2_some, Nat.add_zero, Nat.zero_add, if_true, if_false, Bool.false_eq_true, eq_self, hI_R, hJ_R, ng_t, ng_e, m6], FR.rf⟩))
  · have mw' := mw_mono mw (show n - 1 ≤ n by omega)
    have fa : FR h (hI h 53 4 (nI (n - 1))) [52, 53, 54, 55, 56, 57, 58, 59] [] [] [] := FR.hI (by decide) (by decide) (by decide)
    have mn1 : MN (hI h 53 4 (nI (n - 1))) 53 (n - 1) d M := ⟨rfl, hm5, fun k hk => hm.2.2 k (by omega)⟩
    obtain ⟨h1, e5, f1, hr1⟩ := k_rebuild52 (h := hI h 53 4 (nI (n - 1))) hs (cc_fr fa (by decide) hs hc) hw hl hf mn1 mw'
    have f2 := fa.tr (f1.mono (by decide) (by decide) (by decide) (by decide))
    have l1 := f2.lay hl
    have x : ∀ x, 53 ≤ x → x ≤ 57 → h1.2.1 x = (hI h 53 4 (nI (n - 1))).2.1 x := fun x a b => f1.I x (by simp; omega) (by omega) (by omega)
    have mn2 : MN h1 53 (n - 1) d M := by
      unfold MN
      rw [x 53 (by decide) (by decide), x (53 + 1) (by decide) (by decide), x (53 + 2) (by decide) (by decide), x (53 + 3) (by decide) (by decide), x (53 + 4) (by decide) (by decide)]
      exact mn1
    have g4 : h1.2.1 53 4 = nI (n - 1) := mn2.1
    have f114 : (hI h1 0 17 (nI 0)).2.1 114 = h.2.1 114 := f2.I 114 (by decide) (by decide) (by decide)
    have m6 : (hI h1 0 17 (nI 0)).2.1 114 6 = nI n := by rw [f114]; exact ro.2.2.2.1.2.1
    have kl : LAY (hI h1 0 17 (nI 0)) := l1
    refine ho_mk ko ro (r := nI (n - 1)) (w := nI 0) (h1 := h1) (k1 := hI (hI h1 0 17 (nI 0)) 114 6 (nI (n - 1))) (n' := n - 1) (d' := d) (M' := M) (by simp (disch := first | assumption | omega | decide | ((repeat first | apply lyI | apply lyJ | apply lywI | apply lywJ | apply csI | apply csJ | apply cswI | apply cswJ); assumption)) only [f_X11_unsay, f_X11_give, f_X3_strike, S0, SH52, LI, ↓li_m1, nI_add, pk_mul, nn_sub, nn_m1, nn_div, nn_rem, nn_nz, nn_mod, nJ_l, lN_add, lN_mul, nn_tb1, nI_bt, nn_and, nn_or, nn_xor, nn_shr, nn_1shl, nn_31, il_p, il_n, it_p, it_n, ie_p, ie_n, ie_b, ie_b1, ie_m, ie_mm, it_m, it_m0, il_m0, bI_rZ, Option.bind_some, bd2_some, Nat.add_zero, Nat.zero_add, if_true, if_false, Bool.false_eq_true, eq_self, hI_R, hJ_R, ng_t, ng_e, hm4, e5, g4]) f2 mn2 hr1 mw' ⟨?_, fun k hk => di.2 k (by omega)⟩ hd ?_ (FR.hI (by decide) (by decide) (by decide)) ?_ ?_ (fun k a b => ?_) ?_
    · exact Nat.le_trans (cntB_mono (by omega)) di.1
    · have m6' : h1.2.1 114 6 = nI n := m6
      simp (disch := first | assumption | omega | decide | ((repeat first | apply lyI | apply lyJ | apply lywI | apply lywJ | apply csI | apply csJ | apply cswI | apply cswJ); assumption)) only [f_X12_unsay, f_X12_gives, SM, rI_eq, rI_ne, rI_nk, rJ_eq, rJ_ne, rJ_nk, rI_J, rJ_I, LI, ↓li_m1, nI_add, pk_mul, nn_sub, nn_m1, nn_div, nn_rem, nn_nz, nn_mod, nJ_l, lN_add, lN_mul, nn_tb1, nI_bt, nn_and, nn_or, nn_xor, nn_shr, nn_1shl, nn_31, il_p, il_n, it_p, it_n, ie_p, ie_n, ie_b, ie_b1, ie_m, ie_mm, it_m, it_m0, il_m0, bI_rZ, Option.bind_some, bd2_some, Nat.add_zero, Nat.zero_add, if_true, if_false, Bool.false_eq_true, eq_self, hI_R, hJ_R, ng_t, ng_e, m6']
    · refine cm_up ro.2.1 (fun k k1 k2 k3 k4 => ?_) ?_
      · rw [rI_nk k3, f114]
      · exact f2.J 115 List.not_mem_nil
    · refine ⟨?_, ?_, fun k i hk hi => ?_⟩
      · rw [rI_nk (by decide), f114]
        exact ro.2.2.2.1.1
      · rw [rI_eq]
      · rw [rI_nk (by omega), f114]
        exact ro.2.2.2.1.2.2 k i (by omega) hi
    · rw [rI_nk (by omega)]
      rfl
    · rw [rI_nk (by omega)]
      rfl
theorem o_nextDay {h : aH} {c : Nat} {A : Nat → Nat} {P : Nat → Bool} {Q : Nat → Nat → Bool} {S : Nat → Nat → Nat → Nat → Nat} {n d : Nat} {M : Nat → Nat → Nat} (ko : KO h c A P Q S n d M) (ro : RO h A P Q S n d M) (di : DI n d M) (hd : d ≤ 99) : HO h c A P Q S (fun g => f_X11_nextDay g 0) (fun g => f_X12_nextDay g 113) := by
  obtain ⟨hs, hc, hw, hl, hf, hm, mw, hr, hn⟩ := id ko
  obtain ⟨b0, b1, b2l, b2, b3, b4⟩ := wf_b hw
  obtain ⟨mn, md, mk, mi⟩ := id mw
  obtain ⟨⟨e0, e1, e2, e15, e3, e4, em⟩, -⟩ := id hc
  have hm4 : h.2.1 53 4 = nI n := hm.1
  have hm5 : h.2.1 53 5 = nI d := hm.2.1
  by_cases h0 : d = 99
  · subst h0
    exact ho_qo ko ro di hd (qo_mk (r := m1) (w := nI 4) ro ⟨h, by simp (disch := first | assumption | omega | decide | ((repeat first | apply lyI | apply lyJ | apply lywI | apply lywJ | apply csI | apply csJ | apply cswI | apply cswJ); assumption)) only [f_X11_nextDay, f_X11_refuse, S0, SH52, LI, ↓li_m1, nI_add, pk_mul, nn_sub, nn_m1, nn_div, nn_rem, nn_nz, nn_mod, nJ_l, lN_add, lN_mul, nn_tb1, nI_bt, nn_and, nn_or, nn_xor, nn_shr, nn_1shl, nn_31, il_p, il_n, it_p, it_n, ie_p, ie_n, ie_b, ie_b1, ie_m, ie_mm, it_m, it_m0, il_m0, bI_rZ, Option.bind_some, bd2_some, Nat.add_zero, Nat.zero_add, if_true, if_false, Bool.false_eq_true, eq_self, hI_R, hJ_R, ng_t, ng_e, hm5], FR.rf⟩ (fun k kl kc km ks => by
      obtain ⟨m5, m6, mM⟩ := id km
      exact ⟨k, by simp (disch := first | assumption | omega | decide | ((repeat first | apply lyI | apply lyJ | apply lywI | apply lywJ | apply csI | apply csJ | apply cswI | apply cswJ); assumption)) only [f_X12_nextDay, f_X12_refuse, SM, LI, ↓li_m1, nI_add, pk_mul, nn_sub, nn_m1, nn_div, nn_rem, nn_nz, nn_mod, nJ_l, lN_add, lN_mul, nn_tb1, nI_bt, nn_and, nn_or, nn_xor, nn_shr, nn_1shl, nn_31, il_p, il_n, it_p, it_n, ie_p, ie_n, ie_b, ie_b1, ie_m, ie_mm, it_m, it_m0, il_m0, bI_rZ, Option.bind_some, bd2_some, Nat.add_zero, Nat.zero_add, if_true, if_false, Bool.false_eq_true, eq_self, hI_R, hJ_R, ng_t, ng_e, m5], FR.rf⟩))
  · have fa : FR h (hI h 53 5 (nI (d + 1))) [52, 53, 54, 55, 56, 57, 58, 59] [] [] [] := FR.hI (by decide) (by decide) (by decide)
    have mn1 : MN (hI h 53 5 (nI (d + 1))) 53 n (d + 1) M := ⟨hm4, rfl, fun k hk => hm.2.2 k hk⟩
    have g5 : (hI h 53 5 (nI (d + 1))).2.1 53 5 = nI (d + 1) := rfl
    have m5 : (hI (hI h 53 5 (nI (d + 1))) 0 17 (nI 0)).2.1 114 5 = nI d := ro.2.2.2.1.1
    have kl : LAY (hI (hI h 53 5 (nI (d + 1))) 0 17 (nI 0)) := hl
    refine ho_mk ko ro (r := nI (d + 1)) (w := nI 0) (h1 := hI h 53 5 (nI (d + 1))) (k1 := hI (hI (hI h 53 5 (nI (d + 1))) 0 17 (nI 0)) 114 5 (nI (d + 1))) (n' := n) (d' := d + 1) (M' := M) (by simp (disch := first | assumption | omega | decide | ((repeat first | apply lyI | apply lyJ | apply lywI | apply lywJ | apply csI | apply csJ | apply cswI | apply cswJ); assumption)) only [f_X11_nextDay, f_X11_give, S0, SH52, LI, ↓li_m1, nI_add, pk_mul, nn_sub, nn_m1, nn_div, nn_rem, nn_nz, nn_mod, nJ_l, lN_add, lN_mul, nn_tb1, nI_bt, nn_and, nn_or, nn_xor, nn_shr, nn_1shl, nn_31, il_p, il_n, it_p, it_n, ie_p, ie_n, ie_b, ie_b1, ie_m, ie_mm, it_m, it_m0, il_m0, bI_rZ, Option.bind_some, bd2_some, Nat.add_zero, Nat.zero_add, if_true, if_false, Bool.false_eq_true, eq_self, hI_R, hJ_R, ng_t, ng_e, hm5, g5]) fa mn1 hr ⟨mn, by omega, mk, mi⟩ ⟨?_, fun k hk => by have := di.2 k hk; omega⟩ (by omega) ?_ (FR.hI (by decide) (by decide) (by decide)) ?_ ?_ (fun k a b => ?_) ?_
    · rw [show cntB (fun k => M k 3 == d + 1) n = 0 from cntB_0.mpr (fun k hk => by
        have := di.2 k hk
        exact beq_eq_false_iff_ne.mpr (by omega))]
      omega
    · have m5' : h.2.1 114 5 = nI d := m5
      simp (disch := first | assumption | omega | decide | ((repeat first | apply lyI | apply lyJ | apply lywI | apply lywJ | apply csI | apply csJ | apply cswI | apply cswJ); assumption)) only [f_X12_nextDay, f_X12_gives, SM, rI_eq, rI_ne, rI_nk, rJ_eq, rJ_ne, rJ_nk, rI_J, rJ_I, LI, ↓li_m1, nI_add, pk_mul, nn_sub, nn_m1, nn_div, nn_rem, nn_nz, nn_mod, nJ_l, lN_add, lN_mul, nn_tb1, nI_bt, nn_and, nn_or, nn_xor, nn_shr, nn_1shl, nn_31, il_p, il_n, it_p, it_n, ie_p, ie_n, ie_b, ie_b1, ie_m, ie_mm, it_m, it_m0, il_m0, bI_rZ, Option.bind_some, bd2_some, Nat.add_zero, Nat.zero_add, if_true, if_false, Bool.false_eq_true, eq_self, hI_R, hJ_R, ng_t, ng_e, m5']
    · refine cm_up ro.2.1 (fun k k1 k2 k3 k4 => ?_) rfl
      rw [rI_nk k2]
      rfl
    · refine ⟨?_, ?_, fun k i hk hi => ?_⟩
      · rw [rI_eq]
      · rw [rI_nk (by decide)]
        exact ro.2.2.2.1.2.1
      · rw [rI_nk (by omega)]
        exact ro.2.2.2.1.2.2 k i hk hi
    · rw [rI_nk (by omega)]
      rfl
    · rw [rI_nk (by omega)]
      rfl
theorem so_mk {h h1 k1 : aH} {f g : aH → Option (Int32 × aH)} {r w : Int32} (e1 : f h = some (r, hI h1 0 17 w)) (f1 : FR h h1 SCR [] [15] []) (e2 : g (hI h1 0 17 w) = some (r, hI k1 113 3 w)) (f2 : FR (hI h1 0 17 w) k1 SCR [] [] [37, 38]) (fp : FP (hI k1 113 3 w)) : SO h f g := by
  refine ⟨r, _, _, e1, e2, (((f1.mono (fun _ h => h) (fun _ h => h) (by decide) (by decide)).tr (fr_0 (by decide))).tr (f2.mono (fun _ h => h) (fun _ h => h) (by decide) (by decide))).tr (fr_1 (by decide)), ?_, fp⟩
  unfold ST
  rw [rI_hI, if_neg (by decide), f2.2.2.2.2.1 17 List.not_mem_nil, rI_hI, if_pos ⟨rfl, rfl⟩, rI_hI, if_pos ⟨rfl, rfl⟩]
/-- how many are enough, at most so many -/
def shO (A : Nat → Nat) (FO : Nat → Option (Nat × Nat)) (most : Nat) : Option Nat := firstB (fun m => (FO m).isSome) most
theorem o_short1 {h : aH} {c : Nat} {A : Nat → Nat} {P : Nat → Bool} {Q : Nat → Nat → Bool} {S : Nat → Nat → Nat → Nat → Nat} {n d : Nat} {M : Nat → Nat → Nat} (ko : KO h c A P Q S n d M) (ro : RO h A P Q S n d M) (fp : FP h) {q : Nat} (qb : q < A 3) {y : Int32} {most : Nat} (hy : (y = m1 ∧ most = 2) ∨ ((∃ v, v < A 4 ∧ y = nI v) ∧ most = 3)) (j1 : f_X11_shortest h 0 (nI q) y = f_X11_shortest_j39 h 0 (nI q) y) (j2 : ∀ k, LAY k → CM k A P Q → f_X12_shortest k 113 (nI q) y = f_X12_shortest_j27 k 113 (nI q) y) : SO h (fun g => f_X11_shortest g 0 (nI q) y) (fun g => f_X12_shortest g 113 (nI q) y) := by
  obtain ⟨hs, hc, hw, hl, hf, hm, mw, hr, hn⟩ := id ko
  obtain ⟨b0, b1, b2l, b2, b3, b4⟩ := wf_b hw
  obtain ⟨mn, md, mk, mi⟩ := id mw
  obtain ⟨⟨e0, e1, e2, e15, e3, e4, em⟩, -⟩ := id hc
  have hm4 : h.2.1 53 4 = nI n := hm.1
  have hm5 : h.2.1 53 5 = nI d := hm.2.1
  have hv : h.2.1 52 5 = nI (cntB (lvB A P S M n) (A 2)) := hr.1
  have cle := cntB_le (lvB A P S M n) (A 2)
  have hput : h.2.1 52 6 = nI (orN (fun i => 2 ^ M i 1) n) := hr.2.1
  have r1 := k_cert52 hs hc hw hl hf hm mw hr qb
  by_cases hz : cntB (lvB A P S M n) (A 2) = 0
  · refine so_qo fp (qo_mk (r := m1) (w := nI 6) ro ⟨h, ?_, FR.rf⟩ (fun k kl kc km ks => by
      obtain ⟨g, e, fg, lg, cg, mg, sg, fb, pu, rl, rs⟩ := r_all kl kc hw km mw ks
      refine ⟨g, ?_, fg.mono (by decide) (by decide) (by decide) (by decide)⟩
      show f_X12_shortest k 113 (nI q) y = _
      rw [j2 k kl kc]
      simp (disch := first | assumption | omega | decide | ((repeat first | apply lyI | apply lyJ | apply lywI | apply lywJ | apply csI | apply csJ | apply cswI | apply cswJ); assumption)) only [f_X12_shortest_j27, f_X12_refuse, SM, LI, ↓li_m1, nI_add, pk_mul, nn_sub, nn_m1, nn_div, nn_rem, nn_nz, nn_mod, nJ_l, lN_add, lN_mul, nn_tb1, nI_bt, nn_and, nn_or, nn_xor, nn_shr, nn_1shl, nn_31, il_p, il_n, it_p, it_n, ie_p, ie_n, ie_b, ie_b1, ie_m, ie_mm, it_m, it_m0, il_m0, bI_rZ, Option.bind_some, bd2_some, Nat.add_zero, Nat.zero_add, if_true, if_false, Bool.false_eq_true, eq_self, hI_R, hJ_R, ng_t, ng_e, e, rl, hz]))
    show f_X11_shortest h 0 (nI q) y = _
    rw [j1]
    simp (disch := first | assumption | omega | decide | ((repeat first | apply lyI | apply lyJ | apply lywI | apply lywJ | apply csI | apply csJ | apply cswI | apply cswJ); assumption)) only [f_X11_shortest_j39, f_X11_refuse, S0, SH52, LI, ↓li_m1, nI_add, pk_mul, nn_sub, nn_m1, nn_div, nn_rem, nn_nz, nn_mod, nJ_l, lN_add, lN_mul, nn_tb1, nI_bt, nn_and, nn_or, nn_xor, nn_shr, nn_1shl, nn_31, il_p, il_n, it_p, it_n, ie_p, ie_n, ie_b, ie_b1, ie_m, ie_mm, it_m, it_m0, il_m0, bI_rZ, Option.bind_some, bd2_some, Nat.add_zero, Nat.zero_add, if_true, if_false, Bool.false_eq_true, eq_self, hI_R, hJ_R, ng_t, ng_e, hv, hz]
  rcases (Classical.em (crI A (lvB A P S M n) (Q q) = m1)).symm with hx | hx
  · have l1 : LAY (hI (hI h 0 15 m1) 0 17 (nI 0)) := hl
    obtain ⟨g, e, fg, lg, cg, mg, sg, fb, pu, rl, rs⟩ := r_all (k := hI (hI h 0 15 m1) 0 17 (nI 0)) hl ro.2.1 hw ro.2.2.2.1 mw ro.2.2.2.2.2
    have r2 := rs q qb
    refine so_mk (r := nI 0) (w := nI 0) (h1 := hI h 0 15 m1) (k1 := hI g 113 37 m1) ?_ (fr_0 (by decide)) ?_ ((fg.mono (by decide) (by decide) (by decide) (by decide)).tr (fr_1 (by decide))) (Or.inl ⟨?_, ?_⟩)
    · show f_X11_shortest h 0 (nI q) y = _
      rw [j1]
      simp (disch := first | assumption | omega | decide | ((repeat first | apply lyI | apply lyJ | apply lywI | apply lywJ | apply csI | apply csJ | apply cswI | apply cswJ); assumption)) only [f_X11_shortest_j39, f_X11_give, S0, SH52, LI, ↓li_m1, nI_add, pk_mul, nn_sub, nn_m1, nn_div, nn_rem, nn_nz, nn_mod, nJ_l, lN_add, lN_mul, nn_tb1, nI_bt, nn_and, nn_or, nn_xor, nn_shr, nn_1shl, nn_31, il_p, il_n, it_p, it_n, ie_p, ie_n, ie_b, ie_b1, ie_m, ie_mm, it_m, it_m0, il_m0, bI_rZ, Option.bind_some, bd2_some, Nat.add_zero, Nat.zero_add, if_true, if_false, Bool.false_eq_true, eq_self, hI_R, hJ_R, ng_t, ng_e, hv, r1, if_neg hx]
    · show f_X12_shortest (hI (hI h 0 15 m1) 0 17 (nI 0)) 113 (nI q) y = _
      rw [j2 _ l1 ro.2.1]
      simp (disch := first | assumption | omega | decide | ((repeat first | apply lyI | apply lyJ | apply lywI | apply lywJ | apply csI | apply csJ | apply cswI | apply cswJ); assumption)) only [f_X12_shortest_j27, f_X12_gives, SM, LI, ↓li_m1, nI_add, pk_mul, nn_sub, nn_m1, nn_div, nn_rem, nn_nz, nn_mod, nJ_l, lN_add, lN_mul, nn_tb1, nI_bt, nn_and, nn_or, nn_xor, nn_shr, nn_1shl, nn_31, il_p, il_n, it_p, it_n, ie_p, ie_n, ie_b, ie_b1, ie_m, ie_mm, it_m, it_m0, il_m0, bI_rZ, Option.bind_some, bd2_some, Nat.add_zero, Nat.zero_add, if_true, if_false, Bool.false_eq_true, eq_self, hI_R, hJ_R, ng_t, ng_e, e, rl, r2, if_neg hx]
    · rw [rI_ne (by decide), rI_ne (by decide), fg.2.2.2.2.1 15 List.not_mem_nil, rI_nk (by decide), rI_eq]
    · rw [rI_nk (by decide), rI_eq]
  rw [hx] at r1
  let FO : Nat → Option (Nat × Nat) := fun m => ffO A (askB y) (fun v x => !putN M n x && okB A P Q S q (byN A P Q S q (askB y) m) (FT A P S M n) (putN M n) v x)
  have m3 : most ≤ 3 ∧ 2 ≤ most := by
    rcases hy with ⟨-, e⟩ | ⟨-, e⟩ <;> omega
  have pl := put_lt (M := M) (k := n) (fun i hi => by have := mk i hi; omega)
  obtain ⟨h1, e5, f1, wl, sq⟩ := k_begin hs hc hw hl hf hm mw hr qb (bi := y)
  have l1 := f1.lay hl
  have kk : ∀ g, SF h1 g 0 → LAY g ∧ CS g c ∧ CC g c A P Q S ∧ g.2.2.2 52 4 = some c ∧ g.2.1 52 6 = nI (orN (fun i => 2 ^ M i 1) n) := fun g sg => by
    have fg : FR h g [61, 62, 63, 64] [] [] [] := f1.tr (sg.1.mono (by decide) (by decide) (by decide) (by decide))
    exact ⟨fg.lay hl, cs_fr fg hs, cc_fr fg (by decide) hs hc, by rw [fg.2.1]; exact hf, by rw [fg.I 52 (by decide) (by decide) (by decide)]; exact hput⟩
  have lc : ∃ e, f_X11_shortest_l102 0 (nI most) (nI 1) h1 = some e ∧ ∃ g, SF h1 g 0 ∧ ((∃ m v x, shO A FO most = some m ∧ FO m = some (v, x) ∧ e = .inl (nI (m + 1), nI (v * 12 + x), g)) ∨ (shO A FO most = none ∧ e = .inr g)) := by
    refine whl0 (fun i (s : Int32 × aH) => ∃ g, s = (nI (i + 1), g) ∧ SF h1 g 0 ∧ ∀ m, m < i → (FO m).isSome = false) _ most (by omega) ⟨h1, rfl, sf_rf, fun m hm => absurd hm (by omega)⟩ ?_
    rintro i _ ⟨g, rfl, sg, hi0⟩ hi
    obtain ⟨g1, g2, g3, g4, g5⟩ := kk g sg
    rcases Nat.lt_or_ge i most with qi | qi
    · obtain ⟨g', e6, s6⟩ := k_first g2 g3 hw g1 g4 (F := FT A P S M n) (pu := putN M n) (m := i) FT_lt (sf_wl b2 sg wl) (sf_sq sg sq) pl (fun x _ => put_bit) (k_rset hw qb i 0 4 (by omega) (by omega))
      have e7 : f_X9_firstOf g 61 (nI 0) (nI (i + 1)) (nI (orN (fun i => 2 ^ M i 1) n)) = some (ffI (FO i), g') := e6
      cases hfo : FO i with
      | none =>
        rw [hfo] at e7
        refine Or.inl ⟨(nI (i + 1 + 1), g'), by simp (disch := first | assumption | omega | decide | ((repeat first | apply lyI | apply lyJ | apply lywI | apply lywJ | apply csI | apply csJ | apply cswI | apply cswJ); assumption)) only [f_X11_shortest_b102, S0, SH52, SS, LI, ↓li_m1, nI_add, pk_mul, nn_sub, nn_m1, nn_div, nn_rem, nn_nz, nn_mod, nJ_l, lN_add, lN_mul, nn_tb1, nI_bt, nn_and, nn_or, nn_xor, nn_shr, nn_1shl, nn_31, il_p, il_n, it_p, it_n, ie_p, ie_n, ie_b, ie_b1, ie_m, ie_mm, it_m, it_m0, il_m0, bI_rZ, Option.bind_some, bd2_some, Nat.add_zero, Nat.zero_add, if_true, if_false, Bool.false_eq_true, eq_self, hI_R, hJ_R, ng_t, ng_e, g5, e7, ffI], qi, g', rfl, sf_tr sg s6, fun m hm => ?_⟩
        rcases Nat.lt_or_ge m i with u | u
        · exact hi0 m u
        · rw [show m = i by omega, hfo]
          rfl
      | some p =>
        obtain ⟨v, x⟩ := p
        rw [hfo] at e7
        have bb := ff_b hfo
        exact Or.inr ⟨.inl (nI (i + 1), nI (v * 12 + x), g'), by simp (disch := first | assumption | omega | decide | ((repeat first | apply lyI | apply lyJ | apply lywI | apply lywJ | apply csI | apply csJ | apply cswI | apply cswJ); assumption)) only [f_X11_shortest_b102, S0, SH52, SS, LI, ↓li_m1, nI_add, pk_mul, nn_sub, nn_m1, nn_div, nn_rem, nn_nz, nn_mod, nJ_l, lN_add, lN_mul, nn_tb1, nI_bt, nn_and, nn_or, nn_xor, nn_shr, nn_1shl, nn_31, il_p, il_n, it_p, it_n, ie_p, ie_n, ie_b, ie_b1, ie_m, ie_mm, it_m, it_m0, il_m0, bI_rZ, Option.bind_some, bd2_some, Nat.add_zero, Nat.zero_add, if_true, if_false, Bool.false_eq_true, eq_self, hI_R, hJ_R, ng_t, ng_e, g5, e7, ffI], g', sf_tr sg s6, Or.inl ⟨i, v, x, firstB_s.mpr ⟨qi, by rw [hfo]; rfl, hi0⟩, hfo, rfl⟩⟩
    · obtain rfl : i = most := by omega
      exact Or.inr ⟨.inr g, by simp (disch := first | assumption | omega | decide | ((repeat first | apply lyI | apply lyJ | apply lywI | apply lywJ | apply csI | apply csJ | apply cswI | apply cswJ); assumption)) only [f_X11_shortest_b102, S0, LI, ↓li_m1, nI_add, pk_mul, nn_sub, nn_m1, nn_div, nn_rem, nn_nz, nn_mod, nJ_l, lN_add, lN_mul, nn_tb1, nI_bt, nn_and, nn_or, nn_xor, nn_shr, nn_1shl, nn_31, il_p, il_n, it_p, it_n, ie_p, ie_n, ie_b, ie_b1, ie_m, ie_mm, it_m, it_m0, il_m0, bI_rZ, Option.bind_some, bd2_some, Nat.add_zero, Nat.zero_add, if_true, if_false, Bool.false_eq_true, eq_self, hI_R, hJ_R, ng_t, ng_e], g, sg, Or.inr ⟨firstB_n.mpr hi0, rfl⟩⟩
  have lr : ∀ k, LAY k → CM k A P Q → SY k A P S → FB k A 0 (FT A P S M n) → PU k (putN M n) → ∃ e, f_X12_shortest_l69 113 (nI q) y (nI 1) k = some e ∧ ∃ g, FR k g [129, 130] [] [] [37, 38] ∧ ((∃ m v x, shO A FO most = some m ∧ FO m = some (v, x) ∧ e = .inl (nI (m + 1), g) ∧ g.2.1 113 37 = nI v ∧ g.2.1 113 38 = nI x) ∨ (shO A FO most = none ∧ e = .inr g ∧ g.2.1 113 37 = k.2.1 113 37 ∧ g.2.1 113 38 = k.2.1 113 38)) := fun k kl kc ks kb kp => by
    refine whl0 (fun i (s : Int32 × aH) => ∃ g, s = (nI (i + 1), g) ∧ FR k g [129, 130] [] [] [37, 38] ∧ LV k g 0 ∧ PU g (putN M n) ∧ g.2.1 113 37 = k.2.1 113 37 ∧ g.2.1 113 38 = k.2.1 113 38 ∧ ∀ m, m < i → (FO m).isSome = false) _ most (by omega) ⟨k, rfl, FR.rf, fun _ _ => rfl, kp, rfl, rfl, fun m hm => absurd hm (by omega)⟩ ?_
    rintro i _ ⟨g, rfl, fg, lv, gp, g37, g38, hi0⟩ hi
    have lg := fg.lay kl
    have cg := cm_fr fg (by decide) (by decide) kc
    have bd : ∀ s0, (i + 1 ≤ most → f_X12_shortest_j80 g 113 (nI q) y (nI (i + 1)) (nI (i + 1)) (nI most) = s0) → i + 1 ≤ most → f_X12_shortest_b69 113 (nI q) y (nI (i + 1)) g = s0 := fun s0 hh hle => by
      rcases hy with ⟨rfl, rfl⟩ | ⟨⟨v, v4, rfl⟩, rfl⟩
      · rw [← hh hle]
        simp (disch := first | assumption | omega | decide | ((repeat first | apply lyI | apply lyJ | apply lywI | apply lywJ | apply csI | apply csJ | apply cswI | apply cswJ); assumption)) only [f_X12_shortest_b69, LI, ↓li_m1, nI_add, pk_mul, nn_sub, nn_m1, nn_div, nn_rem, nn_nz, nn_mod, nJ_l, lN_add, lN_mul, nn_tb1, nI_bt, nn_and, nn_or, nn_xor, nn_shr, nn_1shl, nn_31, il_p, il_n, it_p, it_n, ie_p, ie_n, ie_b, ie_b1, ie_m, ie_mm, it_m, it_m0, il_m0, bI_rZ, Option.bind_some, bd2_some, Nat.add_zero, Nat.zero_add, if_true, if_false, Bool.false_eq_true, eq_self, hI_R, hJ_R, ng_t, ng_e]
      · rw [← hh hle]
        simp (disch := first | assumption | omega | decide | ((repeat first | apply lyI | apply lyJ | apply lywI | apply lywJ | apply csI | apply csJ | apply cswI | apply cswJ); assumption)) only [f_X12_shortest_b69, LI, ↓li_m1, nI_add, pk_mul, nn_sub, nn_m1, nn_div, nn_rem, nn_nz, nn_mod, nJ_l, lN_add, lN_mul, nn_tb1, nI_bt, nn_and, nn_or, nn_xor, nn_shr, nn_1shl, nn_31, il_p, il_n, it_p, it_n, ie_p, ie_n, ie_b, ie_b1, ie_m, ie_mm, it_m, it_m0, il_m0, bI_rZ, Option.bind_some, bd2_some, Nat.add_zero, Nat.zero_add, if_true, if_false, Bool.false_eq_true, eq_self, hI_R, hJ_R, ng_t, ng_e]
    rcases Nat.lt_or_ge i most with qi | qi
    · obtain ⟨g', e6, f6, v6, p6, m6⟩ := r_enough lg cg hw (sy_fr fg (by decide) ks) (lv_fb lv hw kb) FT_lt FT_P gp qb (m := i) (bi := y) (by omega)
      have e7 : f_X12_areEnough g 113 (nI (i + 1)) (nI q) y = some (bI (FO i).isSome, g') := e6
      have m7 : (match FO i with | some (v, x) => g'.2.1 113 37 = nI v ∧ g'.2.1 113 38 = nI x | none => g'.2.1 113 37 = g.2.1 113 37 ∧ g'.2.1 113 38 = g.2.1 113 38) := m6
      cases hfo : FO i with
      | none =>
        rw [hfo] at e7 m7
        refine Or.inl ⟨(nI (i + 1 + 1), g'), bd _ (fun _ => by simp (disch := first | assumption | omega | decide | ((repeat first | apply lyI | apply lyJ | apply lywI | apply lywJ | apply csI | apply csJ | apply cswI | apply cswJ); assumption)) only [f_X12_shortest_j80, SM, LI, ↓li_m1, nI_add, pk_mul, nn_sub, nn_m1, nn_div, nn_rem, nn_nz, nn_mod, nJ_l, lN_add, lN_mul, nn_tb1, nI_bt, nn_and, nn_or, nn_xor, nn_shr, nn_1shl, nn_31, il_p, il_n, it_p, it_n, ie_p, ie_n, ie_b, ie_b1, ie_m, ie_mm, it_m, it_m0, il_m0, bI_rZ, Option.bind_some, bd2_some, Nat.add_zero, Nat.zero_add, if_true, if_false, Bool.false_eq_true, eq_self, hI_R, hJ_R, ng_t, ng_e, e7, Option.isSome_none, bI_f]) (by omega), qi, g', rfl, fg.tr f6, lv_tr lv v6, p6, m7.1.trans g37, m7.2.trans g38, fun m hm => ?_⟩
        rcases Nat.lt_or_ge m i with u | u
        · exact hi0 m u
        · rw [show m = i by omega, hfo]
          rfl
      | some p =>
        obtain ⟨v, x⟩ := p
        rw [hfo] at e7 m7
        exact Or.inr ⟨.inl (nI (i + 1), g'), bd _ (fun _ => by simp (disch := first | assumption | omega | decide | ((repeat first | apply lyI | apply lyJ | apply lywI | apply lywJ | apply csI | apply csJ | apply cswI | apply cswJ); assumption)) only [f_X12_shortest_j80, SM, LI, ↓li_m1, nI_add, pk_mul, nn_sub, nn_m1, nn_div, nn_rem, nn_nz, nn_mod, nJ_l, lN_add, lN_mul, nn_tb1, nI_bt, nn_and, nn_or, nn_xor, nn_shr, nn_1shl, nn_31, il_p, il_n, it_p, it_n, ie_p, ie_n, ie_b, ie_b1, ie_m, ie_mm, it_m, it_m0, il_m0, bI_rZ, Option.bind_some, bd2_some, Nat.add_zero, Nat.zero_add, if_true, if_false, Bool.false_eq_true, eq_self, hI_R, hJ_R, ng_t, ng_e, e7, Option.isSome_some, bI_t]) (by omega), g', fg.tr f6, Or.inl ⟨i, v, x, firstB_s.mpr ⟨qi, by rw [hfo]; rfl, hi0⟩, hfo, rfl, m7.1, m7.2⟩⟩
    · obtain rfl : i = most := by omega
      refine Or.inr ⟨.inr g, ?_, g, fg, Or.inr ⟨firstB_n.mpr hi0, rfl, g37, g38⟩⟩
      rcases hy with ⟨rfl, rfl⟩ | ⟨⟨v, v4, rfl⟩, rfl⟩
      · simp (disch := first | assumption | omega | decide | ((repeat first | apply lyI | apply lyJ | apply lywI | apply lywJ | apply csI | apply csJ | apply cswI | apply cswJ); assumption)) only [f_X12_shortest_b69, f_X12_shortest_j80, LI, ↓li_m1, nI_add, pk_mul, nn_sub, nn_m1, nn_div, nn_rem, nn_nz, nn_mod, nJ_l, lN_add, lN_mul, nn_tb1, nI_bt, nn_and, nn_or, nn_xor, nn_shr, nn_1shl, nn_31, il_p, il_n, it_p, it_n, ie_p, ie_n, ie_b, ie_b1, ie_m, ie_mm, it_m, it_m0, il_m0, bI_rZ, Option.bind_some, bd2_some, Nat.add_zero, Nat.zero_add, if_true, if_false, Bool.false_eq_true, eq_self, hI_R, hJ_R, ng_t, ng_e]
      · simp (disch := first | assumption | omega | decide | ((repeat first | apply lyI | apply lyJ | apply lywI | apply lywJ | apply csI | apply csJ | apply cswI | apply cswJ); assumption)) only [f_X12_shortest_b69, f_X12_shortest_j80, LI, ↓li_m1, nI_add, pk_mul, nn_sub, nn_m1, nn_div, nn_rem, nn_nz, nn_mod, nJ_l, lN_add, lN_mul, nn_tb1, nI_bt, nn_and, nn_or, nn_xor, nn_shr, nn_1shl, nn_31, il_p, il_n, it_p, it_n, ie_p, ie_n, ie_b, ie_b1, ie_m, ie_mm, it_m, it_m0, il_m0, bI_rZ, Option.bind_some, bd2_some, Nat.add_zero, Nat.zero_add, if_true, if_false, Bool.false_eq_true, eq_self, hI_R, hJ_R, ng_t, ng_e]
  have cj : ∀ r, f_X11_shortest_j98 h1 0 (nI most) = some r → f_X11_shortest h 0 (nI q) y = some r := fun r hr => by
    rw [j1]
    rcases hy with ⟨rfl, rfl⟩ | ⟨⟨v, v4, rfl⟩, rfl⟩
    · simp (disch := first | assumption | omega | decide | ((repeat first | apply lyI | apply lyJ | apply lywI | apply lywJ | apply csI | apply csJ | apply cswI | apply cswJ); assumption)) only [f_X11_shortest_j39, S0, SH52, SS, LI, ↓li_m1, nI_add, pk_mul, nn_sub, nn_m1, nn_div, nn_rem, nn_nz, nn_mod, nJ_l, lN_add, lN_mul, nn_tb1, nI_bt, nn_and, nn_or, nn_xor, nn_shr, nn_1shl, nn_31, il_p, il_n, it_p, it_n, ie_p, ie_n, ie_b, ie_b1, ie_m, ie_mm, it_m, it_m0, il_m0, bI_rZ, Option.bind_some, bd2_some, Nat.add_zero, Nat.zero_add, if_true, if_false, Bool.false_eq_true, eq_self, hI_R, hJ_R, ng_t, ng_e, hv, r1, e5, hr]
    · simp (disch := first | assumption | omega | decide | ((repeat first | apply lyI | apply lyJ | apply lywI | apply lywJ | apply csI | apply csJ | apply cswI | apply cswJ); assumption)) only [f_X11_shortest_j39, S0, SH52, SS, LI, ↓li_m1, nI_add, pk_mul, nn_sub, nn_m1, nn_div, nn_rem, nn_nz, nn_mod, nJ_l, lN_add, lN_mul, nn_tb1, nI_bt, nn_and, nn_or, nn_xor, nn_shr, nn_1shl, nn_31, il_p, il_n, it_p, it_n, ie_p, ie_n, ie_b, ie_b1, ie_m, ie_mm, it_m, it_m0, il_m0, bI_rZ, Option.bind_some, bd2_some, Nat.add_zero, Nat.zero_add, if_true, if_false, Bool.false_eq_true, eq_self, hI_R, hJ_R, ng_t, ng_e, hv, r1, e5, hr]
  obtain ⟨_, e8, g, sg, hcase⟩ := lc
  have lg := sg.1.lay l1
  have fhg : FR h g SCR [] [15] [] := (f1.mono (by decide) (by decide) (by decide) (by decide)).tr (sg.1.mono (by decide) (by decide) (by decide) (by decide))
  rcases hcase with ⟨m, v, x, hs1, hs2, rfl⟩ | ⟨hs1, rfl⟩
  · have bb := ff_b hs2
    have ro2 := ro_fr (fhg.tr ((fr_0 (by decide)) : FR g (hI g 0 15 (nI (v * 12 + x))) SCR [] [15] [])) (by decide) (by decide) (by decide) ro
    obtain ⟨k, e9, fk, lk, ck, mk2, sk, fb, pu, rl, rs⟩ := r_all (k := hI (hI g 0 15 (nI (v * 12 + x))) 0 17 (nI 0)) lg ro2.2.1 hw ro2.2.2.2.1 mw ro2.2.2.2.2.2
    obtain ⟨_, e10, k2, f10, ⟨m', v', x', t1, t2, rfl, t3, t4⟩ | ⟨t1, -⟩⟩ := lr k lk ck sk fb pu
    · rw [hs1] at t1
      cases t1
      rw [hs2] at t2
      cases t2
      have l2 := f10.lay lk
      have r2 := rs q qb
      rw [hx] at r2
      have m' := (firstB_s.mp hs1).1
      refine so_mk (r := nI (m + 1)) (w := nI 0) (h1 := hI g 0 15 (nI (v * 12 + x))) (k1 := k2) (cj _ (by simp (disch := first | assumption | omega | decide | ((repeat first | apply lyI | apply lyJ | apply lywI | apply lywJ | apply csI | apply csJ | apply cswI | apply cswJ); assumption)) only [f_X11_shortest_j98, f_X11_give, S0, LI, ↓li_m1, nI_add, pk_mul, nn_sub, nn_m1, nn_div, nn_rem, nn_nz, nn_mod, nJ_l, lN_add, lN_mul, nn_tb1, nI_bt, nn_and, nn_or, nn_xor, nn_shr, nn_1shl, nn_31, il_p, il_n, it_p, it_n, ie_p, ie_n, ie_b, ie_b1, ie_m, ie_mm, it_m, it_m0, il_m0, bI_rZ, Option.bind_some, bd2_some, Nat.add_zero, Nat.zero_add, if_true, if_false, Bool.false_eq_true, eq_self, hI_R, hJ_R, ng_t, ng_e, e8])) (fhg.tr (fr_0 (by decide))) ?_ ((fk.mono (by decide) (by decide) (by decide) (by decide)).tr (f10.mono (by decide) (by decide) (by decide) (by decide))) (Or.inr ⟨v, x, by omega, by omega, ?_, ?_, ?_⟩)
      · show f_X12_shortest _ 113 (nI q) y = _
        rw [j2 (hI (hI g 0 15 (nI (v * 12 + x))) 0 17 (nI 0)) lg ro2.2.1]
        simp (disch := first | assumption | omega | decide | ((repeat first | apply lyI | apply lyJ | apply lywI | apply lywJ | apply csI | apply csJ | apply cswI | apply cswJ); assumption)) only [f_X12_shortest_j27, f_X12_gives, SM, LI, ↓li_m1, nI_add, pk_mul, nn_sub, nn_m1, nn_div, nn_rem, nn_nz, nn_mod, nJ_l, lN_add, lN_mul, nn_tb1, nI_bt, nn_and, nn_or, nn_xor, nn_shr, nn_1shl, nn_31, il_p, il_n, it_p, it_n, ie_p, ie_n, ie_b, ie_b1, ie_m, ie_mm, it_m, it_m0, il_m0, bI_rZ, Option.bind_some, bd2_some, Nat.add_zero, Nat.zero_add, if_true, if_false, Bool.false_eq_true, eq_self, hI_R, hJ_R, ng_t, ng_e, e9, rl, r2, e10]
      · rw [rI_ne (by decide), f10.2.2.2.2.1 15 List.not_mem_nil, fk.2.2.2.2.1 15 List.not_mem_nil, rI_nk (by decide), rI_eq]
      · rw [rI_nk (by decide)]
        exact t3
      · rw [rI_nk (by decide)]
        exact t4
    · rw [hs1] at t1
      cases t1
  · have ro2 := ro_fr fhg (by decide) (by decide) (by decide) ro
    obtain ⟨k, e9, fk, lk, ck, mk2, sk, fb, pu, rl, rs⟩ := r_all (k := hI g 0 17 (nI 6)) lg ro2.2.1 hw ro2.2.2.2.1 mw ro2.2.2.2.2.2
    obtain ⟨_, e10, k2, f10, ⟨m', v', x', t1, -⟩ | ⟨t1, rfl, t3, t4⟩⟩ := lr k lk ck sk fb pu
    · rw [hs1] at t1
      cases t1
    · have l2 := f10.lay lk
      have r2 := rs q qb
      rw [hx] at r2
      refine so_mk (r := m1) (w := nI 6) (h1 := g) (k1 := k2) (cj _ (by simp (disch := first | assumption | omega | decide | ((repeat first | apply lyI | apply lyJ | apply lywI | apply lywJ | apply csI | apply csJ | apply cswI | apply cswJ); assumption)) only [f_X11_shortest_j98, f_X11_refuse, S0, LI, ↓li_m1, nI_add, pk_mul, nn_sub, nn_m1, nn_div, nn_rem, nn_nz, nn_mod, nJ_l, lN_add, lN_mul, nn_tb1, nI_bt, nn_and, nn_or, nn_xor, nn_shr, nn_1shl, nn_31, il_p, il_n, it_p, it_n, ie_p, ie_n, ie_b, ie_b1, ie_m, ie_mm, it_m, it_m0, il_m0, bI_rZ, Option.bind_some, bd2_some, Nat.add_zero, Nat.zero_add, if_true, if_false, Bool.false_eq_true, eq_self, hI_R, hJ_R, ng_t, ng_e, e8])) fhg ?_ ((fk.mono (by decide) (by decide) (by decide) (by decide)).tr (f10.mono (by decide) (by decide) (by decide) (by decide))) ?_
      · show f_X12_shortest _ 113 (nI q) y = _
        rw [j2 (hI g 0 17 (nI 6)) lg ro2.2.1]
        simp (disch := first | assumption | omega | decide | ((repeat first | apply lyI | apply lyJ | apply lywI | apply lywJ | apply csI | apply csJ | apply cswI | apply cswJ); assumption)) only [f_X12_shortest_j27, f_X12_refuse, SM, LI, ↓li_m1, nI_add, pk_mul, nn_sub, nn_m1, nn_div, nn_rem, nn_nz, nn_mod, nJ_l, lN_add, lN_mul, nn_tb1, nI_bt, nn_and, nn_or, nn_xor, nn_shr, nn_1shl, nn_31, il_p, il_n, it_p, it_n, ie_p, ie_n, ie_b, ie_b1, ie_m, ie_mm, it_m, it_m0, il_m0, bI_rZ, Option.bind_some, bd2_some, Nat.add_zero, Nat.zero_add, if_true, if_false, Bool.false_eq_true, eq_self, hI_R, hJ_R, ng_t, ng_e, e9, rl, r2, e10]
      · have a15 : (hI k2 113 3 (nI 6)).2.1 0 15 = h.2.1 0 15 := by
          rw [rI_ne (by decide), f10.2.2.2.2.1 15 List.not_mem_nil, fk.2.2.2.2.1 15 List.not_mem_nil, rI_nk (by decide), sg.1.2.2.2.2.1 15 List.not_mem_nil, f1.2.2.2.2.1 15 List.not_mem_nil]
        have a37 : ∀ j, j ≠ 3 → k2.2.1 113 j = k.2.1 113 j → (hI k2 113 3 (nI 6)).2.1 113 j = h.2.1 113 j := fun j hj e => by
          rw [rI_nk hj, e, fk.2.2.2.2.2 j List.not_mem_nil, rI_ne (by decide), sg.1.2.2.2.2.2 j List.not_mem_nil, f1.2.2.2.2.2 j List.not_mem_nil]
        unfold FP
        rw [a15, a37 37 (by decide) t3, a37 38 (by decide) t4]
        exact fp
theorem o_shortest {h : aH} {c : Nat} {A : Nat → Nat} {P : Nat → Bool} {Q : Nat → Nat → Bool} {S : Nat → Nat → Nat → Nat → Nat} {n d : Nat} {M : Nat → Nat → Nat} (ko : KO h c A P Q S n d M) (ro : RO h A P Q S n d M) (fp : FP h) (x y : Int32) : SO h (fun g => f_X11_shortest g 0 x y) (fun g => f_X12_shortest g 113 x y) := by
  obtain ⟨hs, hc, hw, hl, hf, hm, mw, hr, hn⟩ := id ko
  obtain ⟨b0, b1, b2l, b2, b3, b4⟩ := wf_b hw
  obtain ⟨mn, md, mk, mi⟩ := id mw
  obtain ⟨⟨e0, e1, e2, e15, e3, e4, em⟩, -⟩ := id hc
  have hm4 : h.2.1 53 4 = nI n := hm.1
  have hm5 : h.2.1 53 5 = nI d := hm.2.1
  rcases neg_or x with hx | ⟨q, q1, rfl⟩
  · exact so_qo fp (qo_mk (r := m1) (w := nI 1) ro ⟨h, by simp (disch := first | assumption | omega | decide | ((repeat first | apply lyI | apply lyJ | apply lywI | apply lywJ | apply csI | apply csJ | apply cswI | apply cswJ); assumption)) only [f_X11_shortest, f_X11_shortest_j33, f_X11_below, f_X11_refuse, S0, SC, LI, ↓li_m1, nI_add, pk_mul, nn_sub, nn_m1, nn_div, nn_rem, nn_nz, nn_mod, nJ_l, lN_add, lN_mul, nn_tb1, nI_bt, nn_and, nn_or, nn_xor, nn_shr, nn_1shl, nn_31, il_p, il_n, it_p, it_n, ie_p, ie_n, ie_b, ie_b1, ie_m, ie_mm, it_m, it_m0, il_m0, bI_rZ, Option.bind_some, bd2_some, Nat.add_zero, Nat.zero_add, if_true, if_false, Bool.false_eq_true, eq_self, hI_R, hJ_R, ng_t, ng_e, hn, e3], FR.rf⟩ (fun k kl kc km ks => by
      obtain ⟨c0, c1, c2, c3, c4, cA⟩ := cm_e kc
      exact ⟨k, by simp (disch := first | assumption | omega | decide | ((repeat first | apply lyI | apply lyJ | apply lywI | apply lywJ | apply csI | apply csJ | apply cswI | apply cswJ); assumption)) only [f_X12_shortest, f_X12_shortest_j21, f_X12_isQuestion, f_X12_refuse, SM, LI, ↓li_m1, nI_add, pk_mul, nn_sub, nn_m1, nn_div, nn_rem, nn_nz, nn_mod, nJ_l, lN_add, lN_mul, nn_tb1, nI_bt, nn_and, nn_or, nn_xor, nn_shr, nn_1shl, nn_31, il_p, il_n, it_p, it_n, ie_p, ie_n, ie_b, ie_b1, ie_m, ie_mm, it_m, it_m0, il_m0, bI_rZ, Option.bind_some, bd2_some, Nat.add_zero, Nat.zero_add, if_true, if_false, Bool.false_eq_true, eq_self, hI_R, hJ_R, ng_t, ng_e, c3], FR.rf⟩))
  rcases (Nat.lt_or_ge q (A 3)).symm with qb | qb
  · exact so_qo fp (qo_mk (r := m1) (w := nI 1) ro ⟨h, by simp (disch := first | assumption | omega | decide | ((repeat first | apply lyI | apply lyJ | apply lywI | apply lywJ | apply csI | apply csJ | apply cswI | apply cswJ); assumption)) only [f_X11_shortest, f_X11_shortest_j33, f_X11_below, f_X11_refuse, S0, SC, LI, ↓li_m1, nI_add, pk_mul, nn_sub, nn_m1, nn_div, nn_rem, nn_nz, nn_mod, nJ_l, lN_add, lN_mul, nn_tb1, nI_bt, nn_and, nn_or, nn_xor, nn_shr, nn_1shl, nn_31, il_p, il_n, it_p, it_n, ie_p, ie_n, ie_b, ie_b1, ie_m, ie_mm, it_m, it_m0, il_m0, bI_rZ, Option.bind_some, bd2_some, Nat.add_zero, Nat.zero_add, if_true, if_false, Bool.false_eq_true, eq_self, hI_R, hJ_R, ng_t, ng_e, hn, e3], FR.rf⟩ (fun k kl kc km ks => by
      obtain ⟨c0, c1, c2, c3, c4, cA⟩ := cm_e kc
      exact ⟨k, by simp (disch := first | assumption | omega | decide | ((repeat first | apply lyI | apply lyJ | apply lywI | apply lywJ | apply csI | apply csJ | apply cswI | apply cswJ); assumption)) only [f_X12_shortest, f_X12_shortest_j21, f_X12_isQuestion, f_X12_refuse, SM, LI, ↓li_m1, nI_add, pk_mul, nn_sub, nn_m1, nn_div, nn_rem, nn_nz, nn_mod, nJ_l, lN_add, lN_mul, nn_tb1, nI_bt, nn_and, nn_or, nn_xor, nn_shr, nn_1shl, nn_31, il_p, il_n, it_p, it_n, ie_p, ie_n, ie_b, ie_b1, ie_m, ie_mm, it_m, it_m0, il_m0, bI_rZ, Option.bind_some, bd2_some, Nat.add_zero, Nat.zero_add, if_true, if_false, Bool.false_eq_true, eq_self, hI_R, hJ_R, ng_t, ng_e, c3], FR.rf⟩))
  by_cases hy : y = m1
  · subst hy
    exact o_short1 ko ro fp qb (most := 2) (Or.inl ⟨rfl, rfl⟩) (by simp (disch := first | assumption | omega | decide | ((repeat first | apply lyI | apply lyJ | apply lywI | apply lywJ | apply csI | apply csJ | apply cswI | apply cswJ); assumption)) only [f_X11_shortest, f_X11_below, S0, SC, LI, ↓li_m1, nI_add, pk_mul, nn_sub, nn_m1, nn_div, nn_rem, nn_nz, nn_mod, nJ_l, lN_add, lN_mul, nn_tb1, nI_bt, nn_and, nn_or, nn_xor, nn_shr, nn_1shl, nn_31, il_p, il_n, it_p, it_n, ie_p, ie_n, ie_b, ie_b1, ie_m, ie_mm, it_m, it_m0, il_m0, bI_rZ, Option.bind_some, bd2_some, Nat.add_zero, Nat.zero_add, if_true, if_false, Bool.false_eq_true, eq_self, hI_R, hJ_R, ng_t, ng_e, hn, e3]) (fun k kl kc => by
      obtain ⟨c0, c1, c2, c3, c4, cA⟩ := cm_e kc
      simp (disch := first | assumption | omega | decide | ((repeat first | apply lyI | apply lyJ | apply lywI | apply lywJ | apply csI | apply csJ | apply cswI | apply cswJ); assumption)) only [f_X12_shortest, f_X12_isQuestion, SM, LI, ↓li_m1, nI_add, pk_mul, nn_sub, nn_m1, nn_div, nn_rem, nn_nz, nn_mod, nJ_l, lN_add, lN_mul, nn_tb1, nI_bt, nn_and, nn_or, nn_xor, nn_shr, nn_1shl, nn_31, il_p, il_n, it_p, it_n, ie_p, ie_n, ie_b, ie_b1, ie_m, ie_mm, it_m, it_m0, il_m0, bI_rZ, Option.bind_some, bd2_some, Nat.add_zero, Nat.zero_add, if_true, if_false, Bool.false_eq_true, eq_self, hI_R, hJ_R, ng_t, ng_e, c3])
  rcases neg_or y with hy2 | ⟨v, v1, rfl⟩
  · exact so_qo fp (qo_mk (r := m1) (w := nI 1) ro ⟨h, by simp (disch := first | assumption | omega | decide | ((repeat first | apply lyI | apply lyJ | apply lywI | apply lywJ | apply csI | apply csJ | apply cswI | apply cswJ); assumption)) only [f_X11_shortest, f_X11_shortest_j33, f_X11_below, f_X11_refuse, S0, SC, LI, ↓li_m1, nI_add, pk_mul, nn_sub, nn_m1, nn_div, nn_rem, nn_nz, nn_mod, nJ_l, lN_add, lN_mul, nn_tb1, nI_bt, nn_and, nn_or, nn_xor, nn_shr, nn_1shl, nn_31, il_p, il_n, it_p, it_n, ie_p, ie_n, ie_b, ie_b1, ie_m, ie_mm, it_m, it_m0, il_m0, bI_rZ, Option.bind_some, bd2_some, Nat.add_zero, Nat.zero_add, if_true, if_false, Bool.false_eq_true, eq_self, hI_R, hJ_R, ng_t, ng_e, hn, e3, e4, if_neg hy], FR.rf⟩ (fun k kl kc km ks => by
      obtain ⟨c0, c1, c2, c3, c4, cA⟩ := cm_e kc
      exact ⟨k, by simp (disch := first | assumption | omega | decide | ((repeat first | apply lyI | apply lyJ | apply lywI | apply lywJ | apply csI | apply csJ | apply cswI | apply cswJ); assumption)) only [f_X12_shortest, f_X12_shortest_j21, f_X12_isQuestion, f_X12_isWitness, f_X12_refuse, SM, LI, ↓li_m1, nI_add, pk_mul, nn_sub, nn_m1, nn_div, nn_rem, nn_nz, nn_mod, nJ_l, lN_add, lN_mul, nn_tb1, nI_bt, nn_and, nn_or, nn_xor, nn_shr, nn_1shl, nn_31, il_p, il_n, it_p, it_n, ie_p, ie_n, ie_b, ie_b1, ie_m, ie_mm, it_m, it_m0, il_m0, bI_rZ, Option.bind_some, bd2_some, Nat.add_zero, Nat.zero_add, if_true, if_false, Bool.false_eq_true, eq_self, hI_R, hJ_R, ng_t, ng_e, c3, c4, if_neg hy], FR.rf⟩))
  rcases (Nat.lt_or_ge v (A 4)).symm with vb | vb
  · exact so_qo fp (qo_mk (r := m1) (w := nI 1) ro ⟨h, by simp (disch := first | assumption | omega | decide | ((repeat first | apply lyI | apply lyJ | apply lywI | apply lywJ | apply csI | apply csJ | apply cswI | apply cswJ); assumption)) only [f_X11_shortest, f_X11_shortest_j33, f_X11_below, f_X11_refuse, S0, SC, LI, ↓li_m1, nI_add, pk_mul, nn_sub, nn_m1, nn_div, nn_rem, nn_nz, nn_mod, nJ_l, lN_add, lN_mul, nn_tb1, nI_bt, nn_and, nn_or, nn_xor, nn_shr, nn_1shl, nn_31, il_p, il_n, it_p, it_n, ie_p, ie_n, ie_b, ie_b1, ie_m, ie_mm, it_m, it_m0, il_m0, bI_rZ, Option.bind_some, bd2_some, Nat.add_zero, Nat.zero_add, if_true, if_false, Bool.false_eq_true, eq_self, hI_R, hJ_R, ng_t, ng_e, hn, e3, e4], FR.rf⟩ (fun k kl kc km ks => by
      obtain ⟨c0, c1, c2, c3, c4, cA⟩ := cm_e kc
      exact ⟨k, by simp (disch := first | assumption | omega | decide | ((repeat first | apply lyI | apply lyJ | apply lywI | apply lywJ | apply csI | apply csJ | apply cswI | apply cswJ); assumption)) only [f_X12_shortest, f_X12_shortest_j21, f_X12_isQuestion, f_X12_isWitness, f_X12_refuse, SM, LI, ↓li_m1, nI_add, pk_mul, nn_sub, nn_m1, nn_div, nn_rem, nn_nz, nn_mod, nJ_l, lN_add, lN_mul, nn_tb1, nI_bt, nn_and, nn_or, nn_xor, nn_shr, nn_1shl, nn_31, il_p, il_n, it_p, it_n, ie_p, ie_n, ie_b, ie_b1, ie_m, ie_mm, it_m, it_m0, il_m0, bI_rZ, Option.bind_some, bd2_some, Nat.add_zero, Nat.zero_add, if_true, if_false, Bool.false_eq_true, eq_self, hI_R, hJ_R, ng_t, ng_e, c3, c4], FR.rf⟩))
  exact o_short1 ko ro fp qb (most := 3) (Or.inr ⟨⟨v, vb, rfl⟩, rfl⟩) (by simp (disch := first | assumption | omega | decide | ((repeat first | apply lyI | apply lyJ | apply lywI | apply lywJ | apply csI | apply csJ | apply cswI | apply cswJ); assumption)) only [f_X11_shortest, f_X11_below, S0, SC, LI, ↓li_m1, nI_add, pk_mul, nn_sub, nn_m1, nn_div, nn_rem, nn_nz, nn_mod, nJ_l, lN_add, lN_mul, nn_tb1, nI_bt, nn_and, nn_or, nn_xor, nn_shr, nn_1shl, nn_31, il_p, il_n, it_p, it_n, ie_p, ie_n, ie_b, ie_b1, ie_m, ie_mm, it_m, it_m0, il_m0, bI_rZ, Option.bind_some, bd2_some, Nat.add_zero, Nat.zero_add, if_true, if_false, Bool.false_eq_true, eq_self, hI_R, hJ_R, ng_t, ng_e, hn, e3, e4]) (fun k kl kc => by
    obtain ⟨c0, c1, c2, c3, c4, cA⟩ := cm_e kc
    simp (disch := first | assumption | omega | decide | ((repeat first | apply lyI | apply lyJ | apply lywI | apply lywJ | apply csI | apply csJ | apply cswI | apply cswJ); assumption)) only [f_X12_shortest, f_X12_isQuestion, f_X12_isWitness, SM, LI, ↓li_m1, nI_add, pk_mul, nn_sub, nn_m1, nn_div, nn_rem, nn_nz, nn_mod, nJ_l, lN_add, lN_mul, nn_tb1, nI_bt, nn_and, nn_or, nn_xor, nn_shr, nn_1shl, nn_31, il_p, il_n, it_p, it_n, ie_p, ie_n, ie_b, ie_b1, ie_m, ie_mm, it_m, it_m0, il_m0, bI_rZ, Option.bind_some, bd2_some, Nat.add_zero, Nat.zero_add, if_true, if_false, Bool.false_eq_true, eq_self, hI_R, hJ_R, ng_t, ng_e, c3, c4])
/-- what the last sitting told, on both sides -/
def SA (h : aH) : Prop := (h.2.1 0 16 = nI 0 ∧ h.2.1 113 45 = nI 0) ∨ (h.2.1 0 16 = nI 1 ∧ h.2.1 113 45 = nI 1 ∧ ∀ j, j < 6 → h.2.1 13 j = h.2.1 135 j)
theorem o_sat {h : aH} (hl : LAY h) (sa : SA h) (x : Int32) : QO h (fun g => f_X11_sat g 0 x) (fun g => f_X12_sat g 113 x) := by
  have a6 : aN h 13 = some (nI 6) := aN_L hl (by decide)
  have bad : ∀ w, f_X11_sat h 0 x = some (m1, hI h 0 17 w) → f_X12_sat (hI h 0 17 w) 113 x = some (m1, hI (hI h 0 17 w) 113 3 w) → QO h (fun g => f_X11_sat g 0 x) (fun g => f_X12_sat g 113 x) := fun w e1 e2 => ⟨m1, _, _, e1, e2, (fr_0 (by decide)).tr (fr_1 (by decide)), both_st w⟩
  rcases neg_or x with hx | ⟨v, v1, rfl⟩
  · exact bad (nI 1) (by simp (disch := first | assumption | omega | decide | ((repeat first | apply lyI | apply lyJ | apply lywI | apply lywJ | apply csI | apply csJ | apply cswI | apply cswJ); assumption)) only [f_X11_sat, f_X11_below, f_X11_refuse, S0, LI, ↓li_m1, nI_add, pk_mul, nn_sub, nn_m1, nn_div, nn_rem, nn_nz, nn_mod, nJ_l, lN_add, lN_mul, nn_tb1, nI_bt, nn_and, nn_or, nn_xor, nn_shr, nn_1shl, nn_31, il_p, il_n, it_p, it_n, ie_p, ie_n, ie_b, ie_b1, ie_m, ie_mm, it_m, it_m0, il_m0, bI_rZ, Option.bind_some, bd2_some, Nat.add_zero, Nat.zero_add, if_true, if_false, Bool.false_eq_true, eq_self, hI_R, hJ_R, ng_t, ng_e, a6]) (by simp (disch := first | assumption | omega | decide | ((repeat first | apply lyI | apply lyJ | apply lywI | apply lywJ | apply csI | apply csJ | apply cswI | apply cswJ); assumption)) only [f_X12_sat, f_X12_sat_j9, f_X12_refuse, SM, LI, ↓li_m1, nI_add, pk_mul, nn_sub, nn_m1, nn_div, nn_rem, nn_nz, nn_mod, nJ_l, lN_add, lN_mul, nn_tb1, nI_bt, nn_and, nn_or, nn_xor, nn_shr, nn_1shl, nn_31, il_p, il_n, it_p, it_n, ie_p, ie_n, ie_b, ie_b1, ie_m, ie_mm, it_m, it_m0, il_m0, bI_rZ, Option.bind_some, bd2_some, Nat.add_zero, Nat.zero_add, if_true, if_false, Bool.false_eq_true, eq_self, hI_R, hJ_R, ng_t, ng_e])
  rcases (Nat.lt_or_ge v 6).symm with vb | vb
  · exact bad (nI 1) (by simp (disch := first | assumption | omega | decide | ((repeat first | apply lyI | apply lyJ | apply lywI | apply lywJ | apply csI | apply csJ | apply cswI | apply cswJ); assumption)) only [f_X11_sat, f_X11_below, f_X11_refuse, S0, LI, ↓li_m1, nI_add, pk_mul, nn_sub, nn_m1, nn_div, nn_rem, nn_nz, nn_mod, nJ_l, lN_add, lN_mul, nn_tb1, nI_bt, nn_and, nn_or, nn_xor, nn_shr, nn_1shl, nn_31, il_p, il_n, it_p, it_n, ie_p, ie_n, ie_b, ie_b1, ie_m, ie_mm, it_m, it_m0, il_m0, bI_rZ, Option.bind_some, bd2_some, Nat.add_zero, Nat.zero_add, if_true, if_false, Bool.false_eq_true, eq_self, hI_R, hJ_R, ng_t, ng_e, a6]) (by simp (disch := first | assumption | omega | decide | ((repeat first | apply lyI | apply lyJ | apply lywI | apply lywJ | apply csI | apply csJ | apply cswI | apply cswJ); assumption)) only [f_X12_sat, f_X12_sat_j9, f_X12_refuse, SM, LI, ↓li_m1, nI_add, pk_mul, nn_sub, nn_m1, nn_div, nn_rem, nn_nz, nn_mod, nJ_l, lN_add, lN_mul, nn_tb1, nI_bt, nn_and, nn_or, nn_xor, nn_shr, nn_1shl, nn_31, il_p, il_n, it_p, it_n, ie_p, ie_n, ie_b, ie_b1, ie_m, ie_mm, it_m, it_m0, il_m0, bI_rZ, Option.bind_some, bd2_some, Nat.add_zero, Nat.zero_add, if_true, if_false, Bool.false_eq_true, eq_self, hI_R, hJ_R, ng_t, ng_e])
  rcases sa with ⟨s1, s2⟩ | ⟨s1, s2, s3⟩
  · have s2' : (hI h 0 17 (nI 6)).2.1 113 45 = nI 0 := s2
    exact bad (nI 6) (by simp (disch := first | assumption | omega | decide | ((repeat first | apply lyI | apply lyJ | apply lywI | apply lywJ | apply csI | apply csJ | apply cswI | apply cswJ); assumption)) only [f_X11_sat, f_X11_below, f_X11_refuse, S0, LI, ↓li_m1, nI_add, pk_mul, nn_sub, nn_m1, nn_div, nn_rem, nn_nz, nn_mod, nJ_l, lN_add, lN_mul, nn_tb1, nI_bt, nn_and, nn_or, nn_xor, nn_shr, nn_1shl, nn_31, il_p, il_n, it_p, it_n, ie_p, ie_n, ie_b, ie_b1, ie_m, ie_mm, it_m, it_m0, il_m0, bI_rZ, Option.bind_some, bd2_some, Nat.add_zero, Nat.zero_add, if_true, if_false, Bool.false_eq_true, eq_self, hI_R, hJ_R, ng_t, ng_e, a6, s1]) (by simp (disch := first | assumption | omega | decide | ((repeat first | apply lyI | apply lyJ | apply lywI | apply lywJ | apply csI | apply csJ | apply cswI | apply cswJ); assumption)) only [f_X12_sat, f_X12_sat_j9, f_X12_refuse, SM, LI, ↓li_m1, nI_add, pk_mul, nn_sub, nn_m1, nn_div, nn_rem, nn_nz, nn_mod, nJ_l, lN_add, lN_mul, nn_tb1, nI_bt, nn_and, nn_or, nn_xor, nn_shr, nn_1shl, nn_31, il_p, il_n, it_p, it_n, ie_p, ie_n, ie_b, ie_b1, ie_m, ie_mm, it_m, it_m0, il_m0, bI_rZ, Option.bind_some, bd2_some, Nat.add_zero, Nat.zero_add, if_true, if_false, Bool.false_eq_true, eq_self, hI_R, hJ_R, ng_t, ng_e, s2'])
  · have s2' : (hI h 0 17 (nI 0)).2.1 113 45 = nI 1 := s2
    have s3' : (hI h 0 17 (nI 0)).2.1 135 v = h.2.1 13 v := (s3 v vb).symm
    exact ⟨h.2.1 13 v, hI h 0 17 (nI 0), hI (hI h 0 17 (nI 0)) 113 3 (nI 0), by simp (disch := first | assumption | omega | decide | ((repeat first | apply lyI | apply lyJ | apply lywI | apply lywJ | apply csI | apply csJ | apply cswI | apply cswJ); assumption)) only [f_X11_sat, f_X11_below, f_X11_give, S0, LI, ↓li_m1, nI_add, pk_mul, nn_sub, nn_m1, nn_div, nn_rem, nn_nz, nn_mod, nJ_l, lN_add, lN_mul, nn_tb1, nI_bt, nn_and, nn_or, nn_xor, nn_shr, nn_1shl, nn_31, il_p, il_n, it_p, it_n, ie_p, ie_n, ie_b, ie_b1, ie_m, ie_mm, it_m, it_m0, il_m0, bI_rZ, Option.bind_some, bd2_some, Nat.add_zero, Nat.zero_add, if_true, if_false, Bool.false_eq_true, eq_self, hI_R, hJ_R, ng_t, ng_e, a6, s1], by simp (disch := first | assumption | omega | decide | ((repeat first | apply lyI | apply lyJ | apply lywI | apply lywJ | apply csI | apply csJ | apply cswI | apply cswJ); assumption)) only [f_X12_sat, f_X12_sat_j9, f_X12_gives, SM, LI, ↓li_m1, nI_add, pk_mul, nn_sub, nn_m1, nn_div, nn_rem, nn_nz, nn_mod, nJ_l, lN_add, lN_mul, nn_tb1, nI_bt, nn_and, nn_or, nn_xor, nn_shr, nn_1shl, nn_31, il_p, il_n, it_p, it_n, ie_p, ie_n, ie_b, ie_b1, ie_m, ie_mm, it_m, it_m0, il_m0, bI_rZ, Option.bind_some, bd2_some, Nat.add_zero, Nat.zero_add, if_true, if_false, Bool.false_eq_true, eq_self, hI_R, hJ_R, ng_t, ng_e, s2', s3'], (fr_0 (by decide)).tr (fr_1 (by decide)), both_st (nI 0)⟩
