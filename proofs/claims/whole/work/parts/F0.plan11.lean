/-! ===== plans: both sides read a whole text ===== -/
theorem tc0_f {T : Nat → Nat} {n i : Nat} (h : tcI T n i = 0) (k : Nat) : fkN T n i k = k := by
  unfold fkN
  rw [h]
  rfl
def K00 : Nat → Nat → Nat := fun _ _ => 0
def o00 : Nat → Nat := fun _ => 0
theorem pv_00 {C : Nat → Nat} : PVp C K00 0 0 o00 := ⟨by decide, by decide, by decide, fun r hr => absurd hr (by omega), fun e he => absurd he (by omega)⟩
theorem r_cp {h : aH} (hl : LAY h) : f_X12_plan_l103 113 (nI 148) h = some (wI h 114 (setF (h.2.1 114) 148 252 (fun x => h.2.1 114 (1748 + x)))) := by
  refine for0 (body := fun zz : Int32 × aH => f_X12_plan_b103 113 zz.1 zz.2) (fun j => (nI (148 + j), wI h 114 (setF (h.2.1 114) 148 j (fun x => h.2.1 114 (1748 + x))))) (252) (e := wI h 114 (setF (h.2.1 114) 148 252 (fun x => h.2.1 114 (1748 + x)))) (by rw [setF_0, wI_self]) (by omega) (fun j hj => ?_) ?_
  · rw [← setF_s, ← hI_set]
    have rd : (wI h 114 (setF (h.2.1 114) 148 j (fun x => h.2.1 114 (1748 + x)))).2.1 114 (1600 + (148 + j)) = h.2.1 114 (1748 + j) := by
      rw [wI_s, setF_out (by omega), show 1600 + (148 + j) = 1748 + j by omega]
    simp (disch := first | assumption | omega | decide | ((repeat first | apply lyI | apply lyJ | apply lywI | apply lywJ | apply csI | apply csJ | apply cswI | apply cswJ); assumption)) only [f_X12_plan_b103, SM, LI, ↓li_m1, nI_add, pk_mul, nn_sub, nn_m1, nn_div, nn_rem, nn_nz, nn_mod, nJ_l, lN_add, lN_mul, nn_tb1, nI_bt, nn_and, nn_or, nn_xor, nn_shr, nn_1shl, nn_31, il_p, il_n, it_p, it_n, ie_p, ie_n, ie_b, ie_b1, ie_m, ie_mm, it_m, it_m0, il_m0, bI_rZ, Option.bind_some, bd2_some, Nat.add_zero, Nat.zero_add, if_true, if_false, Bool.false_eq_true, eq_self, hI_R, hJ_R, ng_t, ng_e, rd]
    rfl
  · simp (disch := first | assumption | omega | decide | ((repeat first | apply lyI | apply lyJ | apply lywI | apply lywJ | apply csI | apply csJ | apply cswI | apply cswJ); assumption)) only [f_X12_plan_b103, SM, LI, ↓li_m1, nI_add, pk_mul, nn_sub, nn_m1, nn_div, nn_rem, nn_nz, nn_mod, nJ_l, lN_add, lN_mul, nn_tb1, nI_bt, nn_and, nn_or, nn_xor, nn_shr, nn_1shl, nn_31, il_p, il_n, it_p, it_n, ie_p, ie_n, ie_b, ie_b1, ie_m, ie_mm, it_m, it_m0, il_m0, bI_rZ, Option.bind_some, bd2_some, Nat.add_zero, Nat.zero_add, if_true, if_false, Bool.false_eq_true, eq_self, hI_R, hJ_R, ng_t, ng_e]
theorem x_text14 {h : aH} {c : Nat} {T : Nat → Nat} {n m : Nat} {C : Nat → Nat} {V : Nat → List Nat} (nv : NV C V) (lc : LC h T n m 0) (hs : CS h c) (nc : NCl h c C V) : ∃ o, FCp h 14 C (f_X8_readSteps h 14 4 (c + 1)) (pFin T n o) ∧ (∀ f q, o = .inl (f, q) → f ≠ 0 ∧ f < 100) ∧ (∀ i K N dp op, o = .inr (i, K, N, dp, op) → tcI T n i = 0 ∧ PVp C K N dp op) ∧ ∀ k0 k, MRp k0 k T n 0 C V K00 0 0 o00 → ∃ k', f_X12_plan_l38 113 (nI 1) k = some k' ∧ ERp k0 k' T n C V o := by
  have hl := lc.1
  have m9 := lc.2.1.1.1
  let g := hI (hI (hI h 14 6 (nI 0)) 14 5 (nI 0)) 14 7 (nI 1)
  have fg : FR h g [4, 14, 15, 16, 17, 18, 19] [4] [] [] := ((FR.hI (by decide) (by decide) (by decide)).tr (FR.hI (by decide) (by decide) (by decide))).tr (FR.hI (by decide) (by decide) (by decide))
  have fp : FR h g [14] [] [] [] := ((FR.hI (by decide) (by decide) (by decide)).tr (FR.hI (by decide) (by decide) (by decide))).tr (FR.hI (by decide) (by decide) (by decide))
  obtain ⟨sg, ng⟩ := cp_st14 fg hs nc
  have mc : MCp g g 14 c T n m 0 C V K00 0 0 o00 := by
    refine ⟨FR.rf, lc_fr fp (by decide) (by decide) lc, sg, ng, ⟨?_, fun r hr => absurd hr (by omega)⟩, ?_, ?_, fun e he => absurd he (by omega)⟩
    · show (hI (hI (hI h 14 6 (nI 0)) 14 5 (nI 0)) 14 7 (nI 1)).2.1 14 6 = _
      rw [rI_nk (by decide), rI_nk (by decide), rI_eq]
      rfl
    · show (hI (hI (hI h 14 6 (nI 0)) 14 5 (nI 0)) 14 7 (nI 1)).2.1 14 5 = _
      rw [rI_nk (by decide), rI_eq]
    · show (hI (hI (hI h 14 6 (nI 0)) 14 5 (nI 0)) 14 7 (nI 1)).2.1 14 7 = _
      rw [rI_eq]
  obtain ⟨o, o1, o2⟩ := p_loop14 nv m 0 K00 0 0 o00 g 0 (by omega) (by omega) mc pv_00
  obtain ⟨e, w1, w2⟩ := o1 wN (by have := wN_900 m (by omega); omega)
  have w1' : f_X8_readSteps_l17 14 4 (c + 1) (nI 0) g = some e := w1
  have lg := fg.lay hl
  have hd : f_X8_readSteps h 14 4 (c + 1) = (match (generalizing := false) e with | .inl h14 => some (nI 0, h14) | .inr h15 => f_X8_readSteps_j68 h15 14 4) := by
    have w2' : f_X8_readSteps_l17 14 4 (c + 1) (nI 0) (hI (hI (hI h 14 6 (nI 0)) 14 5 (nI 0)) 14 7 (bI true)) = some e := w1
    simp (disch := first | assumption | omega | decide | ((repeat first | apply lyI | apply lyJ | apply lywI | apply lywJ | apply csI | apply csJ | apply cswI | apply cswJ); assumption)) only [f_X8_readSteps, SP14, LI, ↓li_m1, nI_add, pk_mul, nn_sub, nn_m1, nn_div, nn_rem, nn_nz, nn_mod, nJ_l, lN_add, lN_mul, nn_tb1, nI_bt, nn_and, nn_or, nn_xor, nn_shr, nn_1shl, nn_31, il_p, il_n, it_p, it_n, ie_p, ie_n, ie_b, ie_b1, ie_m, ie_mm, it_m, it_m0, il_m0, bI_rZ, Option.bind_some, bd2_some, Nat.add_zero, Nat.zero_add, if_true, if_false, Bool.false_eq_true, eq_self, hI_R, hJ_R, ng_t, ng_e, w2']
    cases e <;> rfl
  refine ⟨o, ?_, ?_, ?_, fun k0 k mr => o2 k0 k wN (wN_900 m (by omega)) mr⟩
  · rw [hd]
    cases o with
    | inl fq =>
      obtain ⟨f, q⟩ := fq
      obtain ⟨f0, f1, h', rfl, f2, l2⟩ := w2
      exact ⟨f0, f1, h', rfl, fg.tr f2, l2⟩
    | inr s =>
      obtain ⟨i, K, N, dp, op⟩ := s
      obtain ⟨h', rfl, mc', pv, t0⟩ := w2
      obtain ⟨f2, lc2, s2, n2, pc2, po2⟩ := mc'
      have l2 := lc2.1
      have d3 := pv.2.1
      have e5 : h'.2.1 14 5 = nI dp := po2.1
      show FCp h 14 C (f_X8_readSteps_j68 h' 14 4) (if dp = 0 then .inr (K, N) else .inl (2, frI T n i))
      by_cases d0 : dp = 0
      · rw [if_pos d0]
        subst d0
        refine ⟨⟨op, pv⟩, h', by simp (disch := first | assumption | omega | decide | ((repeat first | apply lyI | apply lyJ | apply lywI | apply lywJ | apply csI | apply csJ | apply cswI | apply cswJ); assumption)) only [f_X8_readSteps_j68, SP14, LI, ↓li_m1, nI_add, pk_mul, nn_sub, nn_m1, nn_div, nn_rem, nn_nz, nn_mod, nJ_l, lN_add, lN_mul, nn_tb1, nI_bt, nn_and, nn_or, nn_xor, nn_shr, nn_1shl, nn_31, il_p, il_n, it_p, it_n, ie_p, ie_n, ie_b, ie_b1, ie_m, ie_mm, it_m, it_m0, il_m0, bI_rZ, Option.bind_some, bd2_some, Nat.add_zero, Nat.zero_add, if_true, if_false, Bool.false_eq_true, eq_self, hI_R, hJ_R, ng_t, ng_e, e5], fg.tr f2, l2, pc2, po2.2.1, lc2.2.2.1.2.2.2.1, lc2.2.2.1.2.2.2.2.1, lc2.2.2.1.2.2.2.2.2⟩
      · rw [if_neg d0]
        obtain ⟨h3, r, f3, l3⟩ := x_ref lc2 2
        rw [tc0_f t0] at l3
        refine ⟨by decide, by decide, h3, by simp (disch := first | assumption | omega | decide | ((repeat first | apply lyI | apply lyJ | apply lywI | apply lywJ | apply csI | apply csJ | apply cswI | apply cswJ); assumption)) only [f_X8_readSteps_j68, SP14, SX, LI, ↓li_m1, nI_add, pk_mul, nn_sub, nn_m1, nn_div, nn_rem, nn_nz, nn_mod, nJ_l, lN_add, lN_mul, nn_tb1, nI_bt, nn_and, nn_or, nn_xor, nn_shr, nn_1shl, nn_31, il_p, il_n, it_p, it_n, ie_p, ie_n, ie_b, ie_b1, ie_m, ie_mm, it_m, it_m0, il_m0, bI_rZ, Option.bind_some, bd2_some, Nat.add_zero, Nat.zero_add, if_true, if_false, Bool.false_eq_true, eq_self, hI_R, hJ_R, ng_t, ng_e, e5, r], (fg.tr f2).tr (f3.mono (by decide) (by decide) (by decide) (by decide)), l3⟩
  · rintro f q rfl
    exact ⟨w2.1, w2.2.1⟩
  · rintro i K N dp op rfl
    obtain ⟨h', -, -, pv, t0⟩ := w2
    exact ⟨t0, pv⟩
theorem x_text20 {h : aH} {c : Nat} {T : Nat → Nat} {n m : Nat} {C : Nat → Nat} {V : Nat → List Nat} (nv : NV C V) (lc : LC h T n m 0) (hs : CS h c) (nc : NCl h c C V) : ∃ o, FCp h 20 C (f_X8_readSteps h 20 4 (c + 1)) (pFin T n o) ∧ (∀ f q, o = .inl (f, q) → f ≠ 0 ∧ f < 100) ∧ (∀ i K N dp op, o = .inr (i, K, N, dp, op) → tcI T n i = 0 ∧ PVp C K N dp op) ∧ ∀ k0 k, MRp k0 k T n 0 C V K00 0 0 o00 → ∃ k', f_X12_plan_l38 113 (nI 1) k = some k' ∧ ERp k0 k' T n C V o := by
  have hl := lc.1
  have m9 := lc.2.1.1.1
  let g := hI (hI (hI h 20 6 (nI 0)) 20 5 (nI 0)) 20 7 (nI 1)
  have fg : FR h g [4, 20, 21, 22, 23, 24, 25] [4] [] [] := ((FR.hI (by decide) (by decide) (by decide)).tr (FR.hI (by decide) (by decide) (by decide))).tr (FR.hI (by decide) (by decide) (by decide))
  have fp : FR h g [20] [] [] [] := ((FR.hI (by decide) (by decide) (by decide)).tr (FR.hI (by decide) (by decide) (by decide))).tr (FR.hI (by decide) (by decide) (by decide))
  obtain ⟨sg, ng⟩ := cp_st20 fg hs nc
  have mc : MCp g g 20 c T n m 0 C V K00 0 0 o00 := by
    refine ⟨FR.rf, lc_fr fp (by decide) (by decide) lc, sg, ng, ⟨?_, fun r hr => absurd hr (by omega)⟩, ?_, ?_, fun e he => absurd he (by omega)⟩
    · show (hI (hI (hI h 20 6 (nI 0)) 20 5 (nI 0)) 20 7 (nI 1)).2.1 20 6 = _
      rw [rI_nk (by decide), rI_nk (by decide), rI_eq]
      rfl
    · show (hI (hI (hI h 20 6 (nI 0)) 20 5 (nI 0)) 20 7 (nI 1)).2.1 20 5 = _
      rw [rI_nk (by decide), rI_eq]
    · show (hI (hI (hI h 20 6 (nI 0)) 20 5 (nI 0)) 20 7 (nI 1)).2.1 20 7 = _
      rw [rI_eq]
  obtain ⟨o, o1, o2⟩ := p_loop20 nv m 0 K00 0 0 o00 g 0 (by omega) (by omega) mc pv_00
  obtain ⟨e, w1, w2⟩ := o1 wN (by have := wN_900 m (by omega); omega)
  have w1' : f_X8_readSteps_l17 20 4 (c + 1) (nI 0) g = some e := w1
  have lg := fg.lay hl
  have hd : f_X8_readSteps h 20 4 (c + 1) = (match (generalizing := false) e with | .inl h14 => some (nI 0, h14) | .inr h15 => f_X8_readSteps_j68 h15 20 4) := by
    have w2' : f_X8_readSteps_l17 20 4 (c + 1) (nI 0) (hI (hI (hI h 20 6 (nI 0)) 20 5 (nI 0)) 20 7 (bI true)) = some e := w1
    simp (disch := first | assumption | omega | decide | ((repeat first | apply lyI | apply lyJ | apply lywI | apply lywJ | apply csI | apply csJ | apply cswI | apply cswJ); assumption)) only [f_X8_readSteps, SP20, LI, ↓li_m1, nI_add, pk_mul, nn_sub, nn_m1, nn_div, nn_rem, nn_nz, nn_mod, nJ_l, lN_add, lN_mul, nn_tb1, nI_bt, nn_and, nn_or, nn_xor, nn_shr, nn_1shl, nn_31, il_p, il_n, it_p, it_n, ie_p, ie_n, ie_b, ie_b1, ie_m, ie_mm, it_m, it_m0, il_m0, bI_rZ, Option.bind_some, bd2_some, Nat.add_zero, Nat.zero_add, if_true, if_false, Bool.false_eq_true, eq_self, hI_R, hJ_R, ng_t, ng_e, w2']
    cases e <;> rfl
  refine ⟨o, ?_, ?_, ?_, fun k0 k mr => o2 k0 k wN (wN_900 m (by omega)) mr⟩
  · rw [hd]
    cases o with
    | inl fq =>
      obtain ⟨f, q⟩ := fq
      obtain ⟨f0, f1, h', rfl, f2, l2⟩ := w2
      exact ⟨f0, f1, h', rfl, fg.tr f2, l2⟩
    | inr s =>
      obtain ⟨i, K, N, dp, op⟩ := s
      obtain ⟨h', rfl, mc', pv, t0⟩ := w2
      obtain ⟨f2, lc2, s2, n2, pc2, po2⟩ := mc'
      have l2 := lc2.1
      have d3 := pv.2.1
      have e5 : h'.2.1 20 5 = nI dp := po2.1
      show FCp h 20 C (f_X8_readSteps_j68 h' 20 4) (if dp = 0 then .inr (K, N) else .inl (2, frI T n i))
      by_cases d0 : dp = 0
      · rw [if_pos d0]
        subst d0
        refine ⟨⟨op, pv⟩, h', by simp (disch := first | assumption | omega | decide | ((repeat first | apply lyI | apply lyJ | apply lywI | apply lywJ | apply csI | apply csJ | apply cswI | apply cswJ); assumption)) only [f_X8_readSteps_j68, SP20, LI, ↓li_m1, nI_add, pk_mul, nn_sub, nn_m1, nn_div, nn_rem, nn_nz, nn_mod, nJ_l, lN_add, lN_mul, nn_tb1, nI_bt, nn_and, nn_or, nn_xor, nn_shr, nn_1shl, nn_31, il_p, il_n, it_p, it_n, ie_p, ie_n, ie_b, ie_b1, ie_m, ie_mm, it_m, it_m0, il_m0, bI_rZ, Option.bind_some, bd2_some, Nat.add_zero, Nat.zero_add, if_true, if_false, Bool.false_eq_true, eq_self, hI_R, hJ_R, ng_t, ng_e, e5], fg.tr f2, l2, pc2, po2.2.1, lc2.2.2.1.2.2.2.1, lc2.2.2.1.2.2.2.2.1, lc2.2.2.1.2.2.2.2.2⟩
      · rw [if_neg d0]
        obtain ⟨h3, r, f3, l3⟩ := x_ref lc2 2
        rw [tc0_f t0] at l3
        refine ⟨by decide, by decide, h3, by simp (disch := first | assumption | omega | decide | ((repeat first | apply lyI | apply lyJ | apply lywI | apply lywJ | apply csI | apply csJ | apply cswI | apply cswJ); assumption)) only [f_X8_readSteps_j68, SP20, SX, LI, ↓li_m1, nI_add, pk_mul, nn_sub, nn_m1, nn_div, nn_rem, nn_nz, nn_mod, nJ_l, lN_add, lN_mul, nn_tb1, nI_bt, nn_and, nn_or, nn_xor, nn_shr, nn_1shl, nn_31, il_p, il_n, it_p, it_n, ie_p, ie_n, ie_b, ie_b1, ie_m, ie_mm, it_m, it_m0, il_m0, bI_rZ, Option.bind_some, bd2_some, Nat.add_zero, Nat.zero_add, if_true, if_false, Bool.false_eq_true, eq_self, hI_R, hJ_R, ng_t, ng_e, e5, r], (fg.tr f2).tr (f3.mono (by decide) (by decide) (by decide) (by decide)), l3⟩
  · rintro f q rfl
    exact ⟨w2.1, w2.2.1⟩
  · rintro i K N dp op rfl
    obtain ⟨h', -, -, pv, t0⟩ := w2
    exact ⟨t0, pv⟩
theorem r_taken {k : aH} (kl : LAY k) {f : Nat} (e19 : k.2.1 113 19 = nI f) (f1 : f < 100) (x : Int32) : f_X12_taken k 113 x = if f = 0 then some (x, hI (hI k 113 17 (nI f)) 113 3 (nI 0)) else some (m1, hI (hI k 113 17 (nI f)) 113 3 (nI 9)) := by
  by_cases h0 : f = 0
  · rw [if_pos h0]
    subst h0
    simp (disch := first | assumption | omega | decide | ((repeat first | apply lyI | apply lyJ | apply lywI | apply lywJ | apply csI | apply csJ | apply cswI | apply cswJ); assumption)) only [f_X12_taken, f_X12_gives, SM, rI_eq, rI_ne, rI_nk, rJ_eq, rJ_ne, rJ_nk, rI_J, rJ_I, LI, ↓li_m1, nI_add, pk_mul, nn_sub, nn_m1, nn_div, nn_rem, nn_nz, nn_mod, nJ_l, lN_add, lN_mul, nn_tb1, nI_bt, nn_and, nn_or, nn_xor, nn_shr, nn_1shl, nn_31, il_p, il_n, it_p, it_n, ie_p, ie_n, ie_b, ie_b1, ie_m, ie_mm, it_m, it_m0, il_m0, bI_rZ, Option.bind_some, bd2_some, Nat.add_zero, Nat.zero_add, if_true, if_false, Bool.false_eq_true, eq_self, hI_R, hJ_R, ng_t, ng_e, e19]
  · rw [if_neg h0]
    simp (disch := first | assumption | omega | decide | ((repeat first | apply lyI | apply lyJ | apply lywI | apply lywJ | apply csI | apply csJ | apply cswI | apply cswJ); assumption)) only [f_X12_taken, f_X12_refuse, SM, rI_eq, rI_ne, rI_nk, rJ_eq, rJ_ne, rJ_nk, rI_J, rJ_I, LI, ↓li_m1, nI_add, pk_mul, nn_sub, nn_m1, nn_div, nn_rem, nn_nz, nn_mod, nJ_l, lN_add, lN_mul, nn_tb1, nI_bt, nn_and, nn_or, nn_xor, nn_shr, nn_1shl, nn_31, il_p, il_n, it_p, it_n, ie_p, ie_n, ie_b, ie_b1, ie_m, ie_mm, it_m, it_m0, il_m0, bI_rZ, Option.bind_some, bd2_some, Nat.add_zero, Nat.zero_add, if_true, if_false, Bool.false_eq_true, eq_self, hI_R, hJ_R, ng_t, ng_e, e19]
theorem r_plan {k : aH} {T : Nat → Nat} {n : Nat} {C : Nat → Nat} {V : Nat → List Nat} {k1 : aH} (kl : LAY k) (hb : f_X12_begins k 113 (nI n) (nI 300) = some (nI 1, k1)) (f1 : FR k k1 [121] [] [] [11, 12, 13, 14, 15, 16, 18, 19, 20]) (rc : RC k1 T n 0) (nr : NRe k 0 C V) (q3 : k.2.1 114 3 = nI (C 2)) (q4 : k.2.1 114 4 = nI (C 3)) {o : (Nat × Nat) ⊕ (Nat × (Nat → Nat → Nat) × Nat × Nat × (Nat → Nat))} (of : ∀ f q, o = .inl (f, q) → f ≠ 0 ∧ f < 100) (oo : ∀ i K N dp op, o = .inr (i, K, N, dp, op) → tcI T n i = 0 ∧ PVp C K N dp op) (hr : ∀ k0 k, MRp k0 k T n 0 C V K00 0 0 o00 → ∃ k', f_X12_plan_l38 113 (nI 1) k = some k' ∧ ERp k0 k' T n C V o) : ∃ k', f_X12_plan k 113 (nI n) = some (FRr (pFin T n o), k') ∧ FRp k k' (pFin T n o) := by
  have l1 := rc.1
  let g := hI (hI (hI k1 114 1607 (nI 0)) 113 29 (nI 0)) 113 30 (nI 0)
  have fa : FR k1 (hI k1 114 1607 (nI 0)) [114] [] [] [29, 30] := FR.hI (by decide) (by decide) (by decide)
  have fg : FR k1 g [114] [] [] [29, 30] := (fa.tr (fr_1 (by decide))).tr (fr_1 (by decide))
  have lg : LAY g := fg.lay l1
  have g114 : ∀ x, x < 1607 → g.2.1 114 x = k.2.1 114 x := fun x hx => by
    show (hI k1 114 1607 (nI 0)).2.1 114 x = _
    rw [rI_nk (by omega), f1.I 114 (by decide) (by decide) (by decide)]
  have mr : MRp g g T n 0 C V K00 0 0 o00 := by
    refine ⟨⟨FR.rf, fun _ _ => rfl⟩, rc_fr fg (by decide) (by decide) rc, nr_fr fg (by decide) (nr_fr f1 (by decide) nr), ⟨(g114 3 (by decide)).trans q3, (g114 4 (by decide)).trans q4⟩, ⟨?_, ?_, ?_⟩, fun r j hr => absurd hr (by omega), fun e he => absurd he (by omega)⟩
    · show (hI (hI (hI k1 114 1607 (nI 0)) 113 29 (nI 0)) 113 30 (nI 0)).2.1 113 29 = _
      rw [rI_nk (by decide), rI_eq]
    · show (hI (hI (hI k1 114 1607 (nI 0)) 113 29 (nI 0)) 113 30 (nI 0)).2.1 113 30 = _
      rw [rI_eq]
      rfl
    · show (hI k1 114 1607 (nI 0)).2.1 114 1607 = _
      rw [rI_eq]
  obtain ⟨k2, w, er⟩ := hr g g mr
  have w' : f_X12_plan_l38 113 (nI 1) (hI (hI (hI k1 114 1607 (nI 0)) 113 29 (nI 0)) 113 30 (nI 0)) = some k2 := w
  have hd : f_X12_plan k 113 (nI n) = f_X12_plan_j57 k2 113 := by simp (disch := first | assumption | omega | decide | ((repeat first | apply lyI | apply lyJ | apply lywI | apply lywJ | apply csI | apply csJ | apply cswI | apply cswJ); assumption)) only [f_X12_plan, SM, LI, ↓li_m1, nI_add, pk_mul, nn_sub, nn_m1, nn_div, nn_rem, nn_nz, nn_mod, nJ_l, lN_add, lN_mul, nn_tb1, nI_bt, nn_and, nn_or, nn_xor, nn_shr, nn_1shl, nn_31, il_p, il_n, it_p, it_n, ie_p, ie_n, ie_b, ie_b1, ie_m, ie_mm, it_m, it_m0, il_m0, bI_rZ, Option.bind_some, bd2_some, Nat.add_zero, Nat.zero_add, if_true, if_false, Bool.false_eq_true, eq_self, hI_R, hJ_R, ng_t, ng_e, hb, w']
  rw [hd]
  have f0g : FR k g [114, 121, 125] [] [] [3, 11, 12, 13, 14, 15, 16, 17, 18, 19, 20, 21, 29, 30] := (f1.mono (by decide) (by decide) (by decide) (by decide)).tr (fg.mono (by decide) (by decide) (by decide) (by decide))
  /- a fault -/
  have bad : ∀ (k3 : aH) (f q : Nat), f ≠ 0 → f < 100 → FR g k3 [114, 125] [] [] G30 → (∀ x, x < 1607 → k3.2.1 114 x = g.2.1 114 x) → RLx k3 f q → ∃ k', f_X12_plan_j77 k3 113 = some (m1, k') ∧ FRp k k' (.inl (f, q)) := fun k3 f q f0 f9 f3 a3 rl => by
    have l3 := rl.1
    have e19 := rl.2.1
    have rt := r_taken l3 e19 f9 (k3.2.1 113 30)
    rw [if_neg f0] at rt
    refine ⟨hI (hI k3 113 17 (nI f)) 113 3 (nI 9), by simp (disch := first | assumption | omega | decide | ((repeat first | apply lyI | apply lyJ | apply lywI | apply lywJ | apply csI | apply csJ | apply cswI | apply cswJ); assumption)) only [f_X12_plan_j77, f_X12_plan_j132, SM, LI, ↓li_m1, nI_add, pk_mul, nn_sub, nn_m1, nn_div, nn_rem, nn_nz, nn_mod, nJ_l, lN_add, lN_mul, nn_tb1, nI_bt, nn_and, nn_or, nn_xor, nn_shr, nn_1shl, nn_31, il_p, il_n, it_p, it_n, ie_p, ie_n, ie_b, ie_b1, ie_m, ie_mm, it_m, it_m0, il_m0, bI_rZ, Option.bind_some, bd2_some, Nat.add_zero, Nat.zero_add, if_true, if_false, Bool.false_eq_true, eq_self, hI_R, hJ_R, ng_t, ng_e, e19, rt], ((f0g.tr (f3.mono (by decide) (by decide) (by decide) (by decide))).tr (fr_1 (by decide))).tr (fr_1 (by decide)), ?_, ?_, ?_, ?_, ?_⟩
    · rw [rI_nk (by decide), rI_nk (by decide)]
      exact rl.2.2.2
    · exact fun x hx => (a3 x hx).trans (g114 x hx)
    · rw [rI_eq]
    · rw [rI_nk (by decide), rI_eq]
    · rw [rI_nk (by decide), rI_nk (by decide)]
      exact rl.2.2.1
  cases o with
  | inl fq =>
    obtain ⟨f, q⟩ := fq
    obtain ⟨⟨f2, a2⟩, rl⟩ := er
    obtain ⟨f0, f9⟩ := of f q rfl
    obtain ⟨k', r, z⟩ := bad k2 f q f0 f9 f2 a2 rl
    have l2 := rl.1
    have e19 := rl.2.1
    refine ⟨k', ?_, z⟩
    have b : f_X12_plan_j57 k2 113 = f_X12_plan_j77 k2 113 := by simp (disch := first | assumption | omega | decide | ((repeat first | apply lyI | apply lyJ | apply lywI | apply lywJ | apply csI | apply csJ | apply cswI | apply cswJ); assumption)) only [f_X12_plan_j57, SM, LI, ↓li_m1, nI_add, pk_mul, nn_sub, nn_m1, nn_div, nn_rem, nn_nz, nn_mod, nJ_l, lN_add, lN_mul, nn_tb1, nI_bt, nn_and, nn_or, nn_xor, nn_shr, nn_1shl, nn_31, il_p, il_n, it_p, it_n, ie_p, ie_n, ie_b, ie_b1, ie_m, ie_mm, it_m, it_m0, il_m0, bI_rZ, Option.bind_some, bd2_some, Nat.add_zero, Nat.zero_add, if_true, if_false, Bool.false_eq_true, eq_self, hI_R, hJ_R, ng_t, ng_e, e19]
    rw [b]
    exact r
  | inr s =>
    obtain ⟨i, K, N, dp, op⟩ := s
    obtain ⟨t0, pv⟩ := oo i K N dp op rfl
    obtain ⟨⟨f2, a2⟩, rc2, nr2, q2, ⟨d1, d2, d3⟩, rw2, ro2⟩ := er
    have l2 := rc2.1
    have e19 : k2.2.1 113 19 = nI 0 := rc2.2.2.1
    have dd := pv.2.1
    have s30 := pv.1
    show ∃ k', f_X12_plan_j57 k2 113 = some (FRr (if dp = 0 then .inr (K, N) else .inl (2, frI T n i)), k') ∧ FRp k k' (if dp = 0 then .inr (K, N) else .inl (2, frI T n i))
    by_cases d0 : dp = 0
    · rw [if_pos d0]
      subst d0
      have n60 : N ≤ 60 := by
        have := pv.2.2.1
        omega
      have b1 : f_X12_plan_j57 k2 113 = f_X12_plan_j77 k2 113 := by simp (disch := first | assumption | omega | decide | ((repeat first | apply lyI | apply lyJ | apply lywI | apply lywJ | apply csI | apply csJ | apply cswI | apply cswJ); assumption)) only [f_X12_plan_j57, SM, LI, ↓li_m1, nI_add, pk_mul, nn_sub, nn_m1, nn_div, nn_rem, nn_nz, nn_mod, nJ_l, lN_add, lN_mul, nn_tb1, nI_bt, nn_and, nn_or, nn_xor, nn_shr, nn_1shl, nn_31, il_p, il_n, it_p, it_n, ie_p, ie_n, ie_b, ie_b1, ie_m, ie_mm, it_m, it_m0, il_m0, bI_rZ, Option.bind_some, bd2_some, Nat.add_zero, Nat.zero_add, if_true, if_false, Bool.false_eq_true, eq_self, hI_R, hJ_R, ng_t, ng_e, e19, d1]
      have cp := r_cp (h := hI k2 114 7 (nI N)) l2
      let g3 := wI (hI k2 114 7 (nI N)) 114 (setF ((hI k2 114 7 (nI N)).2.1 114) 148 252 (fun x => (hI k2 114 7 (nI N)).2.1 114 (1748 + x)))
      have l3 : LAY g3 := l2
      have e19' : g3.2.1 113 19 = nI 0 := by
        show (wI (hI k2 114 7 (nI N)) 114 _).2.1 113 19 = _
        rw [wI_n (by decide), rI_ne (by decide)]
        exact e19
      have e30 : g3.2.1 113 30 = nI (sgK K N) := by
        show (wI (hI k2 114 7 (nI N)) 114 _).2.1 113 30 = _
        rw [wI_n (by decide), rI_ne (by decide)]
        exact d2
      have cp' : f_X12_plan_l103 113 (nI 148) (hI k2 114 7 (nI N)) = some g3 := cp
      have rt := r_taken l3 e19' (by decide) (nI (sgK K N))
      rw [if_pos rfl] at rt
      have g3x : ∀ x, x < 1607 → x ≠ 7 → (x < 148 ∨ 400 ≤ x) → g3.2.1 114 x = k.2.1 114 x := fun x h1 h2 h3 => by
        show (wI (hI k2 114 7 (nI N)) 114 (setF ((hI k2 114 7 (nI N)).2.1 114) 148 252 (fun x => (hI k2 114 7 (nI N)).2.1 114 (1748 + x)))).2.1 114 x = _
        rw [wI_s, setF_out (by omega), rI_nk h2, a2 x h1, g114 x h1]
      have f3 : FR k2 g3 [114] [] [] [] := (FR.hI (by decide) (by decide) (by decide)).tr (FR.wI (by decide) (by decide) (by decide))
      refine ⟨hI (hI g3 113 17 (nI 0)) 113 3 (nI 0), ?_, (((f0g.tr (f2.mono (by decide) (by decide) (by decide) (by decide))).tr (f3.mono (by decide) (by decide) (by decide) (by decide))).tr (fr_1 (by decide))).tr (fr_1 (by decide)), ?_, ?_, ?_, ?_, ?_, ?_, ?_⟩
      · rw [b1]
        have b2 : f_X12_plan_j77 k2 113 = f_X12_plan_j132 g3 113 := by simp (disch := first | assumption | omega | decide | ((repeat first | apply lyI | apply lyJ | apply lywI | apply lywJ | apply csI | apply csJ | apply cswI | apply cswJ); assumption)) only [f_X12_plan_j77, SM, LI, ↓li_m1, nI_add, pk_mul, nn_sub, nn_m1, nn_div, nn_rem, nn_nz, nn_mod, nJ_l, lN_add, lN_mul, nn_tb1, nI_bt, nn_and, nn_or, nn_xor, nn_shr, nn_1shl, nn_31, il_p, il_n, it_p, it_n, ie_p, ie_n, ie_b, ie_b1, ie_m, ie_mm, it_m, it_m0, il_m0, bI_rZ, Option.bind_some, bd2_some, Nat.add_zero, Nat.zero_add, if_true, if_false, Bool.false_eq_true, eq_self, hI_R, hJ_R, ng_t, ng_e, e19, d3, cp']
        rw [b2]
        simp (disch := first | assumption | omega | decide | ((repeat first | apply lyI | apply lyJ | apply lywI | apply lywJ | apply csI | apply csJ | apply cswI | apply cswJ); assumption)) only [f_X12_plan_j132, SM, LI, ↓li_m1, nI_add, pk_mul, nn_sub, nn_m1, nn_div, nn_rem, nn_nz, nn_mod, nJ_l, lN_add, lN_mul, nn_tb1, nI_bt, nn_and, nn_or, nn_xor, nn_shr, nn_1shl, nn_31, il_p, il_n, it_p, it_n, ie_p, ie_n, ie_b, ie_b1, ie_m, ie_mm, it_m, it_m0, il_m0, bI_rZ, Option.bind_some, bd2_some, Nat.add_zero, Nat.zero_add, if_true, if_false, Bool.false_eq_true, eq_self, hI_R, hJ_R, ng_t, ng_e, e30, rt]
        rfl
      · rw [rI_nk (by decide), rI_nk (by decide), f3.2.2.2.2.2 11 (by decide)]
        exact rc2.2.2.2.2
      · exact g3x
      · show (wI (hI k2 114 7 (nI N)) 114 (setF ((hI k2 114 7 (nI N)).2.1 114) 148 252 (fun x => (hI k2 114 7 (nI N)).2.1 114 (1748 + x)))).2.1 114 7 = _
        rw [wI_s, setF_out (by omega), rI_eq]
      · intro r j hr hj
        show (wI (hI k2 114 7 (nI N)) 114 (setF ((hI k2 114 7 (nI N)).2.1 114) 148 252 (fun x => (hI k2 114 7 (nI N)).2.1 114 (1748 + x)))).2.1 114 (148 + 4 * r + j) = _
        rw [wI_s, Nat.add_assoc 148, setF_in (by omega), rI_nk (by omega), ← Nat.add_assoc 1748]
        exact rw2 r j hr hj
      · rw [rI_eq]
      · rw [rI_nk (by decide), rI_eq]
      · rw [rI_nk (by decide), rI_nk (by decide), f3.2.2.2.2.2 18 (by decide)]
        exact rc2.2.2.2.1
    · rw [if_neg d0]
      obtain ⟨k3, r3, f3, rl⟩ := r_fail rc2 2
      rw [tc0_f t0] at rl
      obtain ⟨k', r, z⟩ := bad k3 2 (frI T n i) (by decide) (by decide) (f2.tr (f3.mono (by decide) (by decide) (by decide) (by decide))) (fun x hx => by rw [f3.I 114 (by decide) (by decide) (by decide)]; exact a2 x hx) rl
      refine ⟨k', ?_, z⟩
      have b : f_X12_plan_j57 k2 113 = f_X12_plan_j77 k3 113 := by simp (disch := first | assumption | omega | decide | ((repeat first | apply lyI | apply lyJ | apply lywI | apply lywJ | apply csI | apply csJ | apply cswI | apply cswJ); assumption)) only [f_X12_plan_j57, SM, LI, ↓li_m1, nI_add, pk_mul, nn_sub, nn_m1, nn_div, nn_rem, nn_nz, nn_mod, nJ_l, lN_add, lN_mul, nn_tb1, nI_bt, nn_and, nn_or, nn_xor, nn_shr, nn_1shl, nn_31, il_p, il_n, it_p, it_n, ie_p, ie_n, ie_b, ie_b1, ie_m, ie_mm, it_m, it_m0, il_m0, bI_rZ, Option.bind_some, bd2_some, Nat.add_zero, Nat.zero_add, if_true, if_false, Bool.false_eq_true, eq_self, hI_R, hJ_R, ng_t, ng_e, e19, d1, r3]
      rw [b]
      exact r
