/-! ===== a sitting: best and next, in the reference ===== -/
theorem r8_fr {h h' : aH} {A : Nat → Nat} {P : Nat → Bool} {Q : Nat → Nat → Bool} {S : Nat → Nat → Nat → Nat → Nat} {t : MT} {cI f0 f1 : List Nat} (hf : FR h h' cI [] f0 f1) (h1 : 114 ∉ cI) (h2 : 126 ∉ cI) (r8 : R8 h A P Q S t) : R8 h' A P Q S t := ⟨hf.lay r8.1, cm_fr hf h1 List.not_mem_nil r8.2.1, mm_fr hf h1 r8.2.2.1, sy_fr hf h2 r8.2.2.2⟩
theorem d_best {h : aH} {A : Nat → Nat} {P : Nat → Bool} {Q : Nat → Nat → Bool} {S : Nat → Nat → Nat → Nat → Nat} {t : MT} (r8 : R8 h A P Q S t) (hw : WF A) (gm : GM A t) {tr : Nat} {tk : Nat → Nat} (e40 : h.2.1 113 40 = nI tr) (e132 : ∀ v, v < A 4 → h.2.1 132 v = nI (tk v)) (ht : tr < A 2) (hpt : P tr = true) (hkk : ∀ v, v < A 4 → tk v < 4) {K : Nat → Nat → Nat} {N k : Nat} (pr : PR h K N) (hk : k < N) (hN : N ≤ 60) (h18 : K k 0 = 18) (hv : K k 1 < A 4) : ∃ h', f_X12_doesStep h 113 (nI k) = some (nI (k + 1), h') ∧ FR h h' [114, 129, 130] [] [] [] ∧ KP h h' ∧ R8 h' A P Q S (puS S tr tk (K k 1) (bsO A P S (K k 1) t) t) := by
  obtain ⟨hl, hc, hm, hs⟩ := id r8
  obtain ⟨b0, b1, b2l, b2, b3, b4⟩ := wf_b hw
  obtain ⟨c0, c1, c2, c3, c4, cA⟩ := cm_e hc
  obtain ⟨g, e, fg, lg, cg, mg, sg, fb, pu, rl, rs⟩ := r_all hl hc hw hm gm.1 hs
  obtain ⟨g1, r3, f2, -⟩ := r_bestOf lg cg hw sg fb FT_lt FT_P pu hv
  rw [lf_lv, bs_I] at r3
  have ff : FR h g1 [129, 130] [] [] [] := fg.tr (f2.mono (by decide) (by decide) (by decide) (by decide))
  obtain ⟨h', r, f1, kp, r8'⟩ := r_puts (r8_fr ff (by decide) (by decide) r8) hw gm (by rw [ff.2.2.2.2.2 40 List.not_mem_nil]; exact e40) (fun v hv => by rw [ff.I 132 (by decide) (by decide) (by decide)]; exact e132 v hv) ht hpt hkk hv (bsO A P S (K k 1) t) bs_lt
  obtain ⟨y, r3', r'⟩ : ∃ y, f_X12_bestOf g 113 (nI (K k 1)) = some (y, g1) ∧ f_X12_puts g1 113 (nI (K k 1)) y = some h' := ⟨_, r3, r⟩
  have ck0 : ck h 12 113 = some () := ck_L hl (by decide) (by decide)
  have ck1 : ck g 12 113 = some () := ck_L lg (by decide) (by decide)
  have ck2 : ck g1 12 113 = some () := ck_L (ff.lay hl) (by decide) (by decide)
  have iw : f_X12_isWitness h 113 (nI (K k 1)) = some (nI 1) := by simp (disch := first | assumption | omega | decide | ((repeat first | apply lyI | apply lyJ | apply lywI | apply lywJ | apply csI | apply csJ | apply cswI | apply cswJ); assumption)) only [f_X12_isWitness, SM, LI, ↓li_m1, nI_add, pk_mul, nn_sub, nn_m1, nn_div, nn_rem, nn_nz, nn_mod, nJ_l, lN_add, lN_mul, nn_tb1, nI_bt, nn_and, nn_or, nn_xor, nn_shr, nn_1shl, nn_31, il_p, il_n, it_p, it_n, ie_p, ie_n, ie_b, ie_b1, ie_m, ie_mm, it_m, it_m0, il_m0, bI_rZ, Option.bind_some, bd2_some, Nat.add_zero, Nat.zero_add, if_true, if_false, Bool.false_eq_true, eq_self, hI_R, hJ_R, ng_t, ng_e, c4]
  refine ⟨h', ?_, (ff.mono (by decide) (by decide) (by decide) (by decide)).tr f1, kp_tr (kp_fr ff (by decide)) kp, r8'⟩
  rw [d_head hl pr hk hN (by omega) (by omega), h18]
  unfold f_X12_doesStep_j67
  rw [if_pos (by decide), ck0, Option.bind_some, iw, Option.bind_some, if_neg (by decide), Option.bind_some, e, Option.bind_some, ck1, Option.bind_some, r3', bd2_some, ck2, Option.bind_some, r', Option.bind_some]
  exact d_98 (by decide) (by decide) (by decide)
theorem d_next {h : aH} {A : Nat → Nat} {P : Nat → Bool} {Q : Nat → Nat → Bool} {S : Nat → Nat → Nat → Nat → Nat} {t : MT} (r8 : R8 h A P Q S t) {K : Nat → Nat → Nat} {N k : Nat} (pr : PR h K N) (hk : k < N) (hN : N ≤ 60) (h19 : K k 0 = 19) : ∃ h', f_X12_doesStep h 113 (nI k) = some (nI (k + 1), h') ∧ FR h h' [114, 129, 130] [] [] [] ∧ KP h h' ∧ R8 h' A P Q S (t.1, t.2.1 + 1, t.2.2) := by
  obtain ⟨hl, hc, hm, hs⟩ := id r8
  have u0 : gR h 12 113 0 = some 114 := gR_L hl (by decide) (by decide) (by decide +kernel)
  have w5 : lI h 114 (5 : Int32) = some (nI t.2.1) := (lI_L hl (j := 5) (by decide) (by decide)).trans (congrArg some hm.1)
  have s5 : sI h 114 (5 : Int32) (nI t.2.1 + (1 : Int32)) = some (hI h 114 5 (nI (t.2.1 + 1))) := by
    rw [show nI t.2.1 + (1 : Int32) = nI (t.2.1 + 1) from nI_1 _]
    exact sI_L hl (j := 5) _ (by decide) (by decide)
  refine ⟨hI h 114 5 (nI (t.2.1 + 1)), ?_, FR.hI (by decide) (by decide) (by decide), ⟨fun x hx => rI_nk (by omega), rI_nk (by decide)⟩, hl, cm_up hc (fun x _ h5 _ _ => rI_nk h5) rfl, ⟨rI_eq, (rI_nk (by decide)).trans hm.2.1, fun x i hx hi => (rI_nk (by omega)).trans (hm.2.2 x i hx hi)⟩, hs⟩
  rw [d_head hl pr hk hN (by omega) (by omega), h19, d_67 (by decide) (by decide)]
  unfold f_X12_doesStep_j98
  rw [if_pos (by decide), u0, Option.bind_some, w5, Option.bind_some, s5, Option.bind_some]
  exact d_114 (by decide) (by decide)
