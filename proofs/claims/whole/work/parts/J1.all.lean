/-! ===== cases: the class reads a case ===== -/
def A00 : Nat → Nat := fun y => if y = 2 then 1 else 0
def V00 : Nat → List Nat := fun _ => []
def B00 : Nat → Nat := fun _ => 0
def Q00 : Nat → Nat → Bool := fun _ _ => false
theorem dv_00 : DV A00 V00 B00 Q00 := by
  refine ⟨⟨⟨by decide, by decide, by decide, by decide, fun f hf => absurd hf (by decide +revert)⟩, by decide, by decide, fun v hv => absurd hv (by decide +revert), fun q hq => absurd hq (by decide +revert), fun v hv => absurd hv (by decide +revert)⟩, ⟨fun s hs => ?_, fun s k hs hk => ?_, fun s k s' k' hs hs' hk => ?_⟩, by decide, fun v _ => by decide +revert, fun v k _ _ _ => ?_, fun q w hq => (by cases hq), ⟨by decide, by decide⟩, fun f x hf => absurd hf (by decide +revert), ⟨⟨fun _ => by decide, fun h => absurd h (by decide)⟩, fun f hf => absurd hf (by show ¬ f + 1 < 0; omega), fun f hf => absurd hf (by show ¬ f + 1 = 0; omega)⟩⟩
  · have : cA A00 s = 0 := by rcases lt4 hs with rfl | rfl | rfl | rfl <;> rfl
    rw [this]
    exact Nat.zero_le _
  · have : cA A00 s = 0 := by rcases lt4 hs with rfl | rfl | rfl | rfl <;> rfl
    omega
  · have : cA A00 s = 0 := by rcases lt4 hs with rfl | rfl | rfl | rfl <;> rfl
    omega
  · unfold A00
    rw [if_neg (by omega)]
theorem x_clear {h : aH} {c : Nat} (hs : CS h c) : ∃ h', f_X1_clear h c = some h' ∧ FR h h' [c, c + 1, c + 9, c + 10, c + 12, c + 13, c + 14] [] [] [] ∧ h'.2.1 (c + 1) 3 = nI 0 ∧ (h'.2.1 c 12 = nI 0 ∧ h'.2.1 c 13 = nI 0 ∧ h'.2.1 c 14 = nI 1 ∧ h'.2.1 c 16 = nI 0 ∧ h'.2.1 c 17 = nI 0 ∧ h'.2.1 c 18 = nI 65535) ∧ (∀ x, x < 16 → h'.2.1 (c + 12) x = nI 0) ∧ (∀ x, x < 4 → h'.2.1 (c + 13) x = nI 0) ∧ ∀ x, x < 4 → h'.2.1 (c + 14) x = nI 0 := by
  have c0 := hs.1
  have kd' : ∀ (g : aH) j, CS g c → j < 16 → kd g (c + j) = (SH0.getD (26 + j) (99, 0)).1 ∧ ln g (c + j) = (SH0.getD (26 + j) (99, 0)).2 := fun g j hg hj => by
    unfold kd ln
    rw [hg.2.1 j hj]
    exact ⟨rfl, rfl⟩
  have F12 : ∀ g : aH, CS g c → f_J7_fill_53178 g (c + 12) (nI 0) = some (wI g (c + 12) (setF (g.2.1 (c + 12)) 0 16 (fun _ => nI 0))) := fun g hg => fill_I (kd' g 12 hg (by decide)).1 (kd' g 12 hg (by decide)).2 (by decide)
  have F13 : ∀ g : aH, CS g c → f_J7_fill_53178 g (c + 13) (nI 0) = some (wI g (c + 13) (setF (g.2.1 (c + 13)) 0 4 (fun _ => nI 0))) := fun g hg => fill_I (kd' g 13 hg (by decide)).1 (kd' g 13 hg (by decide)).2 (by decide)
  have F14 : ∀ g : aH, CS g c → f_J7_fill_53178 g (c + 14) (nI 0) = some (wI g (c + 14) (setF (g.2.1 (c + 14)) 0 4 (fun _ => nI 0))) := fun g hg => fill_I (kd' g 14 hg (by decide)).1 (kd' g 14 hg (by decide)).2 (by decide)
  obtain ⟨g1, hg1⟩ : ∃ g1, g1 = (hI (hI (hI (hI (hI (hI (hI (hI (hI (hI h (c + 1) 3 (nI 0)) c 12 (nI 0)) c 13 (nI 0)) c 16 (nI 0)) c 17 (nI 0)) c 14 (nI 1)) c 15 (nI 1)) (c + 9) 0 (nI 1)) (c + 10) 0 (nI 0)) c 18 (nI 65535)) := ⟨_, rfl⟩
  have s1 : CS g1 c := by rw [hg1]; exact hs
  have p1 : f_X1_clear h c = (f_J7_fill_53178 g1 (c + 12) (nI 0)).bind fun h15 => (gR h15 1 c 9).bind fun t16 => (f_J7_fill_53178 h15 t16 (0 : Int32)).bind fun h17 => (gR h17 1 c 10).bind fun t18 => (f_J7_fill_53178 h17 t18 (0 : Int32)).bind fun h19 => some h19 := by
    rw [hg1]
    simp (disch := first | assumption | omega | decide | ((repeat first | apply lyI | apply lyJ | apply lywI | apply lywJ | apply csI | apply csJ | apply cswI | apply cswJ); assumption)) only [f_X1_clear, SC, SNM, LI, ↓li_m1, nI_add, pk_mul, nn_sub, nn_m1, nn_div, nn_rem, nn_nz, nn_mod, nJ_l, lN_add, lN_mul, nn_tb1, nI_bt, nn_and, nn_or, nn_xor, nn_shr, nn_1shl, nn_31, il_p, il_n, it_p, it_n, ie_p, ie_n, ie_b, ie_b1, ie_m, ie_mm, it_m, it_m0, il_m0, bI_rZ, Option.bind_some, bd2_some, Nat.add_zero, Nat.zero_add, if_true, if_false, Bool.false_eq_true, eq_self, hI_R, hJ_R, ng_t, ng_e]
  obtain ⟨g2, hg2⟩ : ∃ g2, g2 = wI g1 (c + 12) (setF (g1.2.1 (c + 12)) 0 16 (fun _ => nI 0)) := ⟨_, rfl⟩
  obtain ⟨g3, hg3⟩ : ∃ g3, g3 = wI g2 (c + 13) (setF (g2.2.1 (c + 13)) 0 4 (fun _ => nI 0)) := ⟨_, rfl⟩
  obtain ⟨g4, hg4⟩ : ∃ g4, g4 = wI g3 (c + 14) (setF (g3.2.1 (c + 14)) 0 4 (fun _ => nI 0)) := ⟨_, rfl⟩
  have s2 : CS g2 c := by rw [hg2]; exact s1
  have s3 : CS g3 c := by rw [hg3]; exact s2
  have q12 := F12 g1 s1
  have q13 := F13 g2 s2
  have q14 := F14 g3 s3
  rw [← hg2] at q12
  rw [← hg3] at q13
  rw [← hg4] at q14
  have f1 : FR h g1 [c, c + 1, c + 9, c + 10] [] [] [] := by
    rw [hg1]
    exact (((((((((FR.hI (by simp) (by omega) (by omega)).tr (FR.hI (by simp) (by omega) (by omega))).tr (FR.hI (by simp) (by omega) (by omega))).tr (FR.hI (by simp) (by omega) (by omega))).tr (FR.hI (by simp) (by omega) (by omega))).tr (FR.hI (by simp) (by omega) (by omega))).tr (FR.hI (by simp) (by omega) (by omega))).tr (FR.hI (by simp) (by omega) (by omega))).tr (FR.hI (by simp) (by omega) (by omega))).tr (FR.hI (by simp) (by omega) (by omega))
  have f2 : FR g1 g4 [c + 12, c + 13, c + 14] [] [] [] := by
    rw [hg4]
    refine FR.tr (h1 := g3) ?_ (FR.wI (by simp) (by omega) (by omega))
    rw [hg3]
    refine FR.tr (h1 := g2) ?_ (FR.wI (by simp) (by omega) (by omega))
    rw [hg2]
    exact FR.wI (by simp) (by omega) (by omega)
  have e12 : ∀ x, g4.2.1 (c + 12) x = if x < 16 then nI 0 else h.2.1 (c + 12) x := fun x => by
    rw [hg4, wI_n (by omega), hg3, wI_n (by omega), hg2, wI_s, f1.I (c + 12) (by simp) (by omega) (by omega)]
    unfold setF
    by_cases e : x < 16
    · rw [if_pos (by omega), if_pos e]
    · rw [if_neg (by omega), if_neg e]
  refine ⟨g4, ?_, (f1.mono (by intro x hx; simp at hx ⊢; omega) (by simp) (by simp) (by simp)).tr (f2.mono (by intro x hx; simp at hx ⊢; omega) (by simp) (by simp) (by simp)), ?_, ?_, fun x hx => by rw [e12, if_pos hx], fun x hx => ?_, fun x hx => ?_⟩
  · rw [p1, q12]
    simp (disch := first | assumption | omega | decide | ((repeat first | apply lyI | apply lyJ | apply lywI | apply lywJ | apply csI | apply csJ | apply cswI | apply cswJ); assumption)) only [SC, LI, ↓li_m1, nI_add, pk_mul, nn_sub, nn_m1, nn_div, nn_rem, nn_nz, nn_mod, nJ_l, lN_add, lN_mul, nn_tb1, nI_bt, nn_and, nn_or, nn_xor, nn_shr, nn_1shl, nn_31, il_p, il_n, it_p, it_n, ie_p, ie_n, ie_b, ie_b1, ie_m, ie_mm, it_m, it_m0, il_m0, bI_rZ, Option.bind_some, bd2_some, Nat.add_zero, Nat.zero_add, if_true, if_false, Bool.false_eq_true, eq_self, hI_R, hJ_R, ng_t, ng_e, q13, q14]
  · rw [f2.I (c + 1) (by simp) (by omega) (by omega), hg1]
    simp (disch := first | assumption | omega | decide | ((repeat first | apply lyI | apply lyJ | apply lywI | apply lywJ | apply csI | apply csJ | apply cswI | apply cswJ); assumption)) only [rI_eq, rI_ne, rI_nk, rJ_eq, rJ_ne, rJ_nk, rI_J, rJ_I, LI, ↓li_m1, nI_add, pk_mul, nn_sub, nn_m1, nn_div, nn_rem, nn_nz, nn_mod, nJ_l, lN_add, lN_mul, nn_tb1, nI_bt, nn_and, nn_or, nn_xor, nn_shr, nn_1shl, nn_31, il_p, il_n, it_p, it_n, ie_p, ie_n, ie_b, ie_b1, ie_m, ie_mm, it_m, it_m0, il_m0, bI_rZ, Option.bind_some, bd2_some, Nat.add_zero, Nat.zero_add, if_true, if_false, Bool.false_eq_true, eq_self, hI_R, hJ_R, ng_t, ng_e]
  · rw [f2.I c (by simp) (by omega) (by omega), hg1]
    refine ⟨?_, ?_, ?_, ?_, ?_, ?_⟩ <;> simp (disch := first | assumption | omega | decide | ((repeat first | apply lyI | apply lyJ | apply lywI | apply lywJ | apply csI | apply csJ | apply cswI | apply cswJ); assumption)) only [rI_eq, rI_ne, rI_nk, rJ_eq, rJ_ne, rJ_nk, rI_J, rJ_I, LI, ↓li_m1, nI_add, pk_mul, nn_sub, nn_m1, nn_div, nn_rem, nn_nz, nn_mod, nJ_l, lN_add, lN_mul, nn_tb1, nI_bt, nn_and, nn_or, nn_xor, nn_shr, nn_1shl, nn_31, il_p, il_n, it_p, it_n, ie_p, ie_n, ie_b, ie_b1, ie_m, ie_mm, it_m, it_m0, il_m0, bI_rZ, Option.bind_some, bd2_some, Nat.add_zero, Nat.zero_add, if_true, if_false, Bool.false_eq_true, eq_self, hI_R, hJ_R, ng_t, ng_e]
  · rw [hg4, wI_n (by omega), hg3, wI_s, setF_in0 hx]
  · rw [hg4, wI_s, setF_in0 hx]
theorem x_rc0 {h : aH} {c : Nat} {T : Nat → Nat} {n m : Nat} (lc : LC h T n m 0) (hs : CS h c) : ∃ h1, (f_X2_readCase h 42 c = bd2 (f_X2_readCase_l29 42 (nI 1) (nI 0) h1) fun t29 h30 => f_X2_readCase_j147 h30 42 t29) ∧ DC (hR h 42 6 (some c)) h1 c T n m 0 A00 V00 B00 Q00 := by
  have hl := lc.1
  have c0 := hs.1
  let g := hR h 42 6 (some c)
  have lg : LAY g := lay_Rg (by decide +kernel) hl
  have sg : CS g c := cs_Rg (by decide) (by decide) (by decide) hs
  have pr : pR h 2 42 6 c = some g := by
    unfold pR
    rw [lay_kd hl 42 (by decide), if_pos (by decide)]
  have g6 : g.2.2.2 42 6 = some c := rR_eq
  obtain ⟨g1, e1, f1, z1, z2, z3, z4, z5⟩ := x_clear sg
  have l1 := f1.lay lg
  have s1 := cs_fr f1 sg
  let g2 := hI g1 42 7 (bI false)
  have l2 : LAY g2 := l1
  have fi : f_J7_fill_53178 g2 48 (nI 0) = some (wI g2 48 (setF (g2.2.1 48) 0 24 (fun _ => nI 0))) := fill_I (lay_kd l2 48 (by decide)) (lay_ln l2 48 (by decide)) (by decide)
  let g3 := wI g2 48 (setF (g2.2.1 48) 0 24 (fun _ => nI 0))
  have f3 : FR g1 g3 [42, 48] [] [] [] := (FR.hI (by decide) (by decide) (by decide)).tr (FR.wI (by decide) (by decide) (by decide))
  have fz : FR g g3 [42, 48, c, c + 1, c + 9, c + 10, c + 12, c + 13, c + 14] [] [] [] := (f1.mono (by intro x hx; simp at hx ⊢; omega) (by simp) (by simp) (by simp)).tr (f3.mono (by simp) (by simp) (by simp) (by simp))
  have fi' : f_J7_fill_53178 (hI g1 42 7 (bI false)) 48 (nI 0) = some g3 := fi
  have lcg : LC g T n m 0 := ⟨lg, lc.2⟩
  have ec : ∀ j, j < 16 → g3.2.1 (c + j) = g1.2.1 (c + j) := fun j hj => f3.I _ (by simp <;> omega) (by omega) (by omega)
  have ec0 := ec 0 (by decide)
  rw [Nat.add_zero] at ec0
  refine ⟨g3, ?_, fz.mono (by intro x hx; unfold LCc; simp at hx ⊢; omega) (by simp) (by simp) (by simp), lc_fr fz (by intro x hx; simp at hx; omega) (by simp) lcg, cs_fr fz sg, by rw [fz.2.1]; exact g6, ?_, ?_, fun v hv => ?_, Or.inl ⟨rfl, ?_⟩⟩
  · unfold f_X2_readCase
    rw [pr, Option.bind_some]
    simp (disch := first | assumption | omega | decide | ((repeat first | apply lyI | apply lyJ | apply lywI | apply lywJ | apply csI | apply csJ | apply cswI | apply cswJ); assumption)) only [SR, SC, LI, ↓li_m1, nI_add, pk_mul, nn_sub, nn_m1, nn_div, nn_rem, nn_nz, nn_mod, nJ_l, lN_add, lN_mul, nn_tb1, nI_bt, nn_and, nn_or, nn_xor, nn_shr, nn_1shl, nn_31, il_p, il_n, it_p, it_n, ie_p, ie_n, ie_b, ie_b1, ie_m, ie_mm, it_m, it_m0, il_m0, bI_rZ, Option.bind_some, bd2_some, Nat.add_zero, Nat.zero_add, if_true, if_false, Bool.false_eq_true, eq_self, hI_R, hJ_R, ng_t, ng_e, g6, e1, fi']
  · refine ⟨0, fun _ => 0, fun _ => 0, rfl, ?_, fun e he => absurd he (by omega), fun s k hs' hk => ?_⟩
    · rw [ec 1 (by decide)]
      exact z1
    · have : cA A00 s = 0 := by rcases lt4 hs' with rfl | rfl | rfl | rfl <;> rfl
      omega
  · obtain ⟨y12, y13, y14, y16, y17, y18⟩ := z2
    unfold DCa
    rw [ec0, ec 5 (by decide), ec 7 (by decide), ec 8 (by decide), ec 11 (by decide), ec 12 (by decide), ec 13 (by decide), ec 14 (by decide)]
    refine ⟨⟨y12, y13, y14, y16, y17, y18⟩, fun f hf => absurd hf (by show ¬ f < 0; omega), fun v hv => absurd hv (by show ¬ v < 0; omega), fun q hq => absurd hq (by show ¬ q < 0; omega), fun v hv => ?_⟩
    have a0 : ∀ k, A00 (76 + 6 * v + k) = 0 := fun k => if_neg (by omega)
    rw [a0 4, a0 5]
    refine ⟨fun k hk => ?_, z4 v hv, z5 v hv⟩
    rw [a0 k]
    exact z3 _ (by omega)
  · show (wI g2 48 (setF (g2.2.1 48) 0 24 (fun _ => nI 0))).2.1 48 v = _
    rw [wI_s, setF_in0 hv]
    rfl
  · show (wI g2 48 (setF (g2.2.1 48) 0 24 (fun _ => nI 0))).2.1 42 7 = _
    rw [wI_n (by decide)]
    exact rI_eq
/-- what a text of a case comes to -/
def XCc (h0 : aH) (c : Nat) (x : Option (Int32 × aH)) (o : OE) : Prop := match o with
  | .inl (f, q) => f ≠ 0 ∧ f < 100 ∧ ∃ h', x = some (nI 0, h') ∧ FR h0 h' (LCc c) (LJc c) [] [] ∧ FL h' f q
  | .inr (_, A, V, Bv, Q) => DV A V Bv Q ∧ ∃ h', x = some (nI 1, h') ∧ FR h0 h' (LCc c) (LJc c) [] [] ∧ LAY h' ∧ CS h' c ∧ CC h' c A (cnP A Bv) Q (anS A (cnP A Bv) Q) ∧ NCl h' c (cA A) V ∧ h'.2.1 4 12 = nI 0 ∧ h'.2.1 4 13 = m1 ∧ h'.2.1 4 6 = nI 0
theorem wp_dv {A : Nat → Nat} {V : Nat → List Nat} {Bv : Nat → Nat} {Q : Nat → Nat → Bool} (dv : DV A V Bv Q) : WP A (cnP A Bv) Q := ⟨dv.2.2.1, fun w hw => by
  unfold cnP at hw
  rw [Bool.and_eq_true, decide_eq_true_eq] at hw
  exact hw.1, fun q w _ hq => (dv.2.2.2.2.2.1 q w hq).2⟩
theorem x_case {h : aH} {c : Nat} {T : Nat → Nat} {n m : Nat} (lc : LC h T n m 0) (hs : CS h c) : ∃ o, XCc (hR h 42 6 (some c)) c (f_X2_readCase h 42 c) o ∧ ∀ k0 k, DR k0 k T n 0 A00 V00 B00 Q00 → OEr k0 T n (f_X12_court_l44 113 (nI 1) k) o := by
  obtain ⟨h1, e1, d1⟩ := x_rc0 lc hs
  have m9 := (lx_t lc).1
  obtain ⟨o, oc, rf⟩ := o_parts (m + 1) 0 0 wN h1 A00 V00 B00 Q00 (by omega) (Nat.le_refl _) (by rw [wN_e]; omega) d1 dv_00
  refine ⟨o, ?_, fun k0 k dr => rf k0 k wN (by rw [wN_e]; omega) dr⟩
  rcases o with ⟨f, q⟩ | ⟨i, A, V, Bv, Q⟩
  · obtain ⟨f0, f9, h', e2, fr, fl⟩ := oc
    have e2' : f_X2_readCase_l29 42 (nI 1) (nI 0) h1 = some (nI 0, h') := e2
    exact ⟨f0, f9, h', by rw [e1, e2', bd2_some]; simp (disch := first | assumption | omega | decide | ((repeat first | apply lyI | apply lyJ | apply lywI | apply lywJ | apply csI | apply csJ | apply cswI | apply cswJ); assumption)) only [f_X2_readCase_j147, LI, ↓li_m1, nI_add, pk_mul, nn_sub, nn_m1, nn_div, nn_rem, nn_nz, nn_mod, nJ_l, lN_add, lN_mul, nn_tb1, nI_bt, nn_and, nn_or, nn_xor, nn_shr, nn_1shl, nn_31, il_p, il_n, it_p, it_n, ie_p, ie_n, ie_b, ie_b1, ie_m, ie_mm, it_m, it_m0, il_m0, bI_rZ, Option.bind_some, bd2_some, Nat.add_zero, Nat.zero_add, if_true, if_false, Bool.false_eq_true, eq_self, hI_R, hJ_R, ng_t, ng_e, rz0], fr, fl⟩
  · obtain ⟨dv, h', e2, d2⟩ := oc
    have e2' : f_X2_readCase_l29 42 (nI 1) (nI 0) h1 = some (nI 1, h') := e2
    obtain ⟨wf, nv, a2, bb, -, -, -, vf, sq⟩ := id dv
    obtain ⟨g, e3, dw⟩ := x_mk (dc_m d2) wf vf a2 bb
    obtain ⟨w1, lcg, sg, g6, ncg, dca, dn, d7, dwo⟩ := dw
    have lg := lcg.1
    have l2 := d2.2.1.1
    have c0 := sg.1
    have cb : CB g c A (cnP A Bv) Q := by
      obtain ⟨⟨g12, g13, g14, g16, g17, g18⟩, gf, gv, gq, gw⟩ := dca
      obtain ⟨v1, v2, v3, v4, v5⟩ := dwo
      have b4 := (wf_b wf).2.2.2.2.2
      exact ⟨⟨g12, g13, g14, v1, g16, g17, g18⟩, fun f hf => ⟨(gf f hf).1, (gf f hf).2, v2 f hf⟩, gv, v3, gq, fun v hv => gw v (by omega)⟩
    obtain ⟨g2, e4, f4, cc⟩ := b_fill sg cb wf lg (wp_dv dv)
    have cl := lcg.2.2.1
    refine ⟨dv, g2, ?_, w1.tr (f4.mono (by intro x hx; unfold LCc; simp at hx ⊢; omega) (by simp) (by simp) (by simp)), f4.lay lg, cs_fr f4 sg, cc, nc_fr f4 sg (by simp <;> omega) (by simp) (by simp <;> omega) (by simp <;> omega) ncg, ?_, ?_, ?_⟩
    · rw [e1, e2', bd2_some]
      simp (disch := first | assumption | omega | decide | ((repeat first | apply lyI | apply lyJ | apply lywI | apply lywJ | apply csI | apply csJ | apply cswI | apply cswJ); assumption)) only [f_X2_readCase_j147, SR, LI, ↓li_m1, nI_add, pk_mul, nn_sub, nn_m1, nn_div, nn_rem, nn_nz, nn_mod, nJ_l, lN_add, lN_mul, nn_tb1, nI_bt, nn_and, nn_or, nn_xor, nn_shr, nn_1shl, nn_31, il_p, il_n, it_p, it_n, ie_p, ie_n, ie_b, ie_b1, ie_m, ie_mm, it_m, it_m0, il_m0, bI_rZ, Option.bind_some, bd2_some, Nat.add_zero, Nat.zero_add, if_true, if_false, Bool.false_eq_true, eq_self, hI_R, hJ_R, ng_t, ng_e, e3, g6, e4, rz1]
    · rw [f4.I 4 (by simp <;> omega) (by decide) (by decide)]
      exact cl.2.2.2.1
    · rw [f4.I 4 (by simp <;> omega) (by decide) (by decide)]
      exact cl.2.2.2.2.1
    · rw [f4.I 4 (by simp <;> omega) (by decide) (by decide)]
      exact cl.2.2.2.2.2
/-! ===== cases: the reference's whole text ===== -/
theorem r_an1 {k : aH} (kl : LAY k) : f_X12_asNew_l2 113 (nI 0) k = some (wI k 114 (setF (k.2.1 114) 1600 400 (fun _ => nI 0))) := by
  refine for0 (body := fun zz : Int32 × aH => f_X12_asNew_b2 113 zz.1 zz.2) (fun j => (nI j, wI k 114 (setF (k.2.1 114) 1600 j (fun _ => nI 0)))) (400) (e := wI k 114 (setF (k.2.1 114) 1600 400 (fun _ => nI 0))) (by rw [setF_0, wI_self]) (by omega) (fun j hj => ?_) ?_
  · rw [← setF_s, ← hI_set]
    simp (disch := first | assumption | omega | decide | ((repeat first | apply lyI | apply lyJ | apply lywI | apply lywJ | apply csI | apply csJ | apply cswI | apply cswJ); assumption)) only [f_X12_asNew_b2, SM, LI, ↓li_m1, nI_add, pk_mul, nn_sub, nn_m1, nn_div, nn_rem, nn_nz, nn_mod, nJ_l, lN_add, lN_mul, nn_tb1, nI_bt, nn_and, nn_or, nn_xor, nn_shr, nn_1shl, nn_31, il_p, il_n, it_p, it_n, ie_p, ie_n, ie_b, ie_b1, ie_m, ie_mm, it_m, it_m0, il_m0, bI_rZ, Option.bind_some, bd2_some, Nat.add_zero, Nat.zero_add, if_true, if_false, Bool.false_eq_true, eq_self, hI_R, hJ_R, ng_t, ng_e]
  · simp (disch := first | assumption | omega | decide | ((repeat first | apply lyI | apply lyJ | apply lywI | apply lywJ | apply csI | apply csJ | apply cswI | apply cswJ); assumption)) only [f_X12_asNew_b2, SM, LI, ↓li_m1, nI_add, pk_mul, nn_sub, nn_m1, nn_div, nn_rem, nn_nz, nn_mod, nJ_l, lN_add, lN_mul, nn_tb1, nI_bt, nn_and, nn_or, nn_xor, nn_shr, nn_1shl, nn_31, il_p, il_n, it_p, it_n, ie_p, ie_n, ie_b, ie_b1, ie_m, ie_mm, it_m, it_m0, il_m0, bI_rZ, Option.bind_some, bd2_some, Nat.add_zero, Nat.zero_add, if_true, if_false, Bool.false_eq_true, eq_self, hI_R, hJ_R, ng_t, ng_e]
theorem r_an2 {k : aH} (kl : LAY k) : f_X12_asNew_l28 113 (nI 0) k = some (wJ k 115 (setF (k.2.2.1 115) 208 52 (fun _ => (0 : Int64)))) := by
  refine for0 (body := fun zz : Int32 × aH => f_X12_asNew_b28 113 zz.1 zz.2) (fun j => (nI j, wJ k 115 (setF (k.2.2.1 115) 208 j (fun _ => (0 : Int64))))) (52) (e := wJ k 115 (setF (k.2.2.1 115) 208 52 (fun _ => (0 : Int64)))) (by rw [setF_0, wJ_self]) (by omega) (fun j hj => ?_) ?_
  · rw [← setF_s, ← hJ_set]
    simp (disch := first | assumption | omega | decide | ((repeat first | apply lyI | apply lyJ | apply lywI | apply lywJ | apply csI | apply csJ | apply cswI | apply cswJ); assumption)) only [f_X12_asNew_b28, SM, LI, ↓li_m1, nI_add, pk_mul, nn_sub, nn_m1, nn_div, nn_rem, nn_nz, nn_mod, nJ_l, lN_add, lN_mul, nn_tb1, nI_bt, nn_and, nn_or, nn_xor, nn_shr, nn_1shl, nn_31, il_p, il_n, it_p, it_n, ie_p, ie_n, ie_b, ie_b1, ie_m, ie_mm, it_m, it_m0, il_m0, bI_rZ, Option.bind_some, bd2_some, Nat.add_zero, Nat.zero_add, if_true, if_false, Bool.false_eq_true, eq_self, hI_R, hJ_R, ng_t, ng_e]
  · simp (disch := first | assumption | omega | decide | ((repeat first | apply lyI | apply lyJ | apply lywI | apply lywJ | apply csI | apply csJ | apply cswI | apply cswJ); assumption)) only [f_X12_asNew_b28, SM, LI, ↓li_m1, nI_add, pk_mul, nn_sub, nn_m1, nn_div, nn_rem, nn_nz, nn_mod, nJ_l, lN_add, lN_mul, nn_tb1, nI_bt, nn_and, nn_or, nn_xor, nn_shr, nn_1shl, nn_31, il_p, il_n, it_p, it_n, ie_p, ie_n, ie_b, ie_b1, ie_m, ie_mm, it_m, it_m0, il_m0, bI_rZ, Option.bind_some, bd2_some, Nat.add_zero, Nat.zero_add, if_true, if_false, Bool.false_eq_true, eq_self, hI_R, hJ_R, ng_t, ng_e]
theorem r_an3 {k : aH} (kl : LAY k) : f_X12_court_l23 113 (nI 0) k = some (wI k 122 (setF (k.2.1 122) 0 24 (fun _ => nI 0))) := by
  refine for0 (body := fun zz : Int32 × aH => f_X12_court_b23 113 zz.1 zz.2) (fun j => (nI j, wI k 122 (setF (k.2.1 122) 0 j (fun _ => nI 0)))) (24) (e := wI k 122 (setF (k.2.1 122) 0 24 (fun _ => nI 0))) (by rw [setF_0, wI_self]) (by omega) (fun j hj => ?_) ?_
  · rw [← setF_s0, ← hI_set]
    simp (disch := first | assumption | omega | decide | ((repeat first | apply lyI | apply lyJ | apply lywI | apply lywJ | apply csI | apply csJ | apply cswI | apply cswJ); assumption)) only [f_X12_court_b23, SM, LI, ↓li_m1, nI_add, pk_mul, nn_sub, nn_m1, nn_div, nn_rem, nn_nz, nn_mod, nJ_l, lN_add, lN_mul, nn_tb1, nI_bt, nn_and, nn_or, nn_xor, nn_shr, nn_1shl, nn_31, il_p, il_n, it_p, it_n, ie_p, ie_n, ie_b, ie_b1, ie_m, ie_mm, it_m, it_m0, il_m0, bI_rZ, Option.bind_some, bd2_some, Nat.add_zero, Nat.zero_add, if_true, if_false, Bool.false_eq_true, eq_self, hI_R, hJ_R, ng_t, ng_e]
  · simp (disch := first | assumption | omega | decide | ((repeat first | apply lyI | apply lyJ | apply lywI | apply lywJ | apply csI | apply csJ | apply cswI | apply cswJ); assumption)) only [f_X12_court_b23, SM, LI, ↓li_m1, nI_add, pk_mul, nn_sub, nn_m1, nn_div, nn_rem, nn_nz, nn_mod, nJ_l, lN_add, lN_mul, nn_tb1, nI_bt, nn_and, nn_or, nn_xor, nn_shr, nn_1shl, nn_31, il_p, il_n, it_p, it_n, ie_p, ie_n, ie_b, ie_b1, ie_m, ie_mm, it_m, it_m0, il_m0, bI_rZ, Option.bind_some, bd2_some, Nat.add_zero, Nat.zero_add, if_true, if_false, Bool.false_eq_true, eq_self, hI_R, hJ_R, ng_t, ng_e]
/-- asNew -/
def anH (k : aH) : aH := hJ (hI (hI (wJ (wI k 114 (setF (k.2.1 114) 1600 400 (fun _ => nI 0))) 115 (setF (k.2.2.1 115) 208 52 (fun _ => (0 : Int64)))) 114 1602 (nI 1)) 114 1607 m1) 115 208 1
theorem r_asNew {k : aH} (kl : LAY k) : f_X12_asNew k 113 = some (anH k) := by
  let k1 := wI k 114 (setF (k.2.1 114) 1600 400 (fun _ => nI 0))
  have l1 : LAY k1 := kl
  have e1 : f_X12_asNew_l2 113 (nI 0) k = some k1 := r_an1 kl
  have e2 : f_X12_asNew_l28 113 (nI 0) k1 = some (wJ k1 115 (setF (k.2.2.1 115) 208 52 (fun _ => (0 : Int64)))) := r_an2 l1
  have l2 : LAY (wJ k1 115 (setF (k.2.2.1 115) 208 52 (fun _ => (0 : Int64)))) := kl
  show _ = some (hJ (hI (hI (wJ k1 115 (setF (k.2.2.1 115) 208 52 (fun _ => (0 : Int64)))) 114 1602 (nI 1)) 114 1607 m1) 115 208 1)
  simp (disch := first | assumption | omega | decide | ((repeat first | apply lyI | apply lyJ | apply lywI | apply lywJ | apply csI | apply csJ | apply cswI | apply cswJ); assumption)) only [f_X12_asNew, SM, LI, ↓li_m1, nI_add, pk_mul, nn_sub, nn_m1, nn_div, nn_rem, nn_nz, nn_mod, nJ_l, lN_add, lN_mul, nn_tb1, nI_bt, nn_and, nn_or, nn_xor, nn_shr, nn_1shl, nn_31, il_p, il_n, it_p, it_n, ie_p, ie_n, ie_b, ie_b1, ie_m, ie_mm, it_m, it_m0, il_m0, bI_rZ, Option.bind_some, bd2_some, Nat.add_zero, Nat.zero_add, if_true, if_false, Bool.false_eq_true, eq_self, hI_R, hJ_R, ng_t, ng_e, e1, e2]
theorem an_4 {k : aH} {x : Nat} : (anH k).2.1 114 x = if x = 1607 then m1 else if x = 1602 then nI 1 else if 1600 ≤ x ∧ x < 2000 then nI 0 else k.2.1 114 x := by
  show (hI (hI (wJ (wI k 114 (setF (k.2.1 114) 1600 400 (fun _ => nI 0))) 115 (setF (k.2.2.1 115) 208 52 (fun _ => (0 : Int64)))) 114 1602 (nI 1)) 114 1607 m1).2.1 114 x = _
  by_cases e1 : x = 1607
  · rw [if_pos e1, e1, rI_eq]
  · rw [if_neg e1, rI_nk e1]
    by_cases e2 : x = 1602
    · rw [if_pos e2, e2, rI_eq]
    · rw [if_neg e2, rI_nk e2, wJ_I, wI_s]
      unfold setF
      by_cases e3 : 1600 ≤ x ∧ x < 2000
      · rw [if_pos e3]
      · rw [if_neg e3]
theorem an_5 {k : aH} {x : Nat} : (anH k).2.2.1 115 x = if x = 208 then 1 else if 208 ≤ x ∧ x < 260 then 0 else k.2.2.1 115 x := by
  show (hJ (wJ (wI k 114 (setF (k.2.1 114) 1600 400 (fun _ => nI 0))) 115 (setF (k.2.2.1 115) 208 52 (fun _ => (0 : Int64)))) 115 208 1).2.2.1 115 x = _
  by_cases e1 : x = 208
  · rw [if_pos e1, e1, rJ_eq]
  · rw [if_neg e1, rJ_nk e1, wJ_s]
    unfold setF
    by_cases e3 : 208 ≤ x ∧ x < 260
    · rw [if_pos e3]
    · rw [if_neg e3]
theorem an_f {k : aH} : FR k (anH k) [114] [115] [] [] := ((((FR.wI (by decide) (by decide) (by decide)).tr (FR.wJ (by decide))).tr (FR.hI (by decide) (by decide) (by decide))).tr (FR.hI (by decide) (by decide) (by decide))).tr (FR.hJ (by decide))
theorem r_nw0 {k : aH} {T : Nat → Nat} {n : Nat} (rc : RC k T n 0) : ∃ k', f_X12_court_l23 113 (nI 0) (anH k) = some k' ∧ DR k k' T n 0 A00 V00 B00 Q00 := by
  have kl := rc.1
  have l1 : LAY (anH k) := kl
  let k2 := wI (anH k) 122 (setF ((anH k).2.1 122) 0 24 (fun _ => nI 0))
  have f2 : FR (anH k) k2 [122] [] [] [] := FR.wI (by decide) (by decide) (by decide)
  have fz : FR k k2 [114, 122] [115] [] [] := (an_f.mono (by decide) (by decide) (by decide) (by decide)).tr (f2.mono (by decide) (by decide) (by decide) (by decide))
  have e4 : k2.2.1 114 = (anH k).2.1 114 := f2.I 114 (by decide) (by decide) (by decide)
  have e5 : k2.2.2.1 115 = (anH k).2.2.1 115 := f2.J 115 (by decide)
  refine ⟨k2, r_an3 l1, ⟨fz.mono (by decide) (by decide) (by decide) (by decide), fun x hx => ?_, fun x hx => ?_, fun x hx => by rw [fz.J 116 (by decide)]⟩, rc_fr fz (by decide) (by decide) rc, fun s j hs hj => ?_, fun x hx h7 => ?_, ⟨?_, fun x h1 h2 => ?_⟩, fun v hv => ?_, fun h => absurd h (by decide), fun q w hq hw => ?_⟩
  · rw [e4, an_4, if_neg (by omega), if_neg (by omega), if_neg (by omega)]
  · rw [e5, an_5, if_neg (by omega), if_neg (by omega)]
  · have : cA A00 s = 0 := by rcases lt4 hs with rfl | rfl | rfl | rfl <;> rfl
    omega
  · rw [e4, an_4, if_neg (by omega)]
    unfold A00
    by_cases e : x = 2
    · rw [if_pos (by omega), if_pos e]
    · rw [if_neg (by omega), if_pos (by omega), if_neg e]
  · rw [e4, an_4, if_pos rfl]
  · rw [e4, an_4, if_neg (by omega), if_neg (by omega), if_pos (by omega)]
  · show (wI (anH k) 122 (setF ((anH k).2.1 122) 0 24 (fun _ => nI 0))).2.1 122 v = _
    rw [wI_s, setF_in0 hv]
    rfl
  · rw [e5, an_5, if_neg (by omega), if_pos (by omega), show (0 : Int64).toBitVec = 0#64 from rfl, BitVec.getLsbD_zero]
    rfl
/-- takes -/
def tkH (k : aH) : aH := wJ (wJ (wI k 114 (setF (k.2.1 114) 0 400 (fun x => k.2.1 114 (1600 + x)))) 115 (setF (k.2.2.1 115) 0 52 (fun x => k.2.2.1 115 (208 + x)))) 116 (setF (k.2.2.1 116) 0 44 (fun x => k.2.2.1 116 (176 + x)))
theorem r_tk {k : aH} (kl : LAY k) : f_X12_takes k 113 = (f_X12_laysAnswers (tkH k) 113).bind fun h19 => some h19 := by
  have e1 : f_X12_takes_l2 113 (nI 0) k = some (wI k 114 (setF (k.2.1 114) 0 400 (fun x => k.2.1 114 (1600 + x)))) := by
    refine for0 (body := fun zz : Int32 × aH => f_X12_takes_b2 113 zz.1 zz.2) (fun j => (nI j, wI k 114 (setF (k.2.1 114) 0 j (fun x => k.2.1 114 (1600 + x))))) (400) (e := wI k 114 (setF (k.2.1 114) 0 400 (fun x => k.2.1 114 (1600 + x)))) (by rw [setF_0, wI_self]) (by omega) (fun j hj => ?_) ?_
    · rw [← setF_s0, ← hI_set]
      have rd : (wI k 114 (setF (k.2.1 114) 0 j (fun x => k.2.1 114 (1600 + x)))).2.1 114 (1600 + j) = k.2.1 114 (1600 + j) := by rw [wI_s, setF_out (by omega)]
      simp (disch := first | assumption | omega | decide | ((repeat first | apply lyI | apply lyJ | apply lywI | apply lywJ | apply csI | apply csJ | apply cswI | apply cswJ); assumption)) only [f_X12_takes_b2, SM, LI, ↓li_m1, nI_add, pk_mul, nn_sub, nn_m1, nn_div, nn_rem, nn_nz, nn_mod, nJ_l, lN_add, lN_mul, nn_tb1, nI_bt, nn_and, nn_or, nn_xor, nn_shr, nn_1shl, nn_31, il_p, il_n, it_p, it_n, ie_p, ie_n, ie_b, ie_b1, ie_m, ie_mm, it_m, it_m0, il_m0, bI_rZ, Option.bind_some, bd2_some, Nat.add_zero, Nat.zero_add, if_true, if_false, Bool.false_eq_true, eq_self, hI_R, hJ_R, ng_t, ng_e, rd]
    · simp (disch := first | assumption | omega | decide | ((repeat first | apply lyI | apply lyJ | apply lywI | apply lywJ | apply csI | apply csJ | apply cswI | apply cswJ); assumption)) only [f_X12_takes_b2, SM, LI, ↓li_m1, nI_add, pk_mul, nn_sub, nn_m1, nn_div, nn_rem, nn_nz, nn_mod, nJ_l, lN_add, lN_mul, nn_tb1, nI_bt, nn_and, nn_or, nn_xor, nn_shr, nn_1shl, nn_31, il_p, il_n, it_p, it_n, ie_p, ie_n, ie_b, ie_b1, ie_m, ie_mm, it_m, it_m0, il_m0, bI_rZ, Option.bind_some, bd2_some, Nat.add_zero, Nat.zero_add, if_true, if_false, Bool.false_eq_true, eq_self, hI_R, hJ_R, ng_t, ng_e]
  have e2 : ∀ k : aH, LAY k → f_X12_takes_l33 113 (nI 0) k = some (wJ k 115 (setF (k.2.2.1 115) 0 52 (fun x => k.2.2.1 115 (208 + x)))) := fun k kl => by
    refine for0 (body := fun zz : Int32 × aH => f_X12_takes_b33 113 zz.1 zz.2) (fun j => (nI j, wJ k 115 (setF (k.2.2.1 115) 0 j (fun x => k.2.2.1 115 (208 + x))))) (52) (e := wJ k 115 (setF (k.2.2.1 115) 0 52 (fun x => k.2.2.1 115 (208 + x)))) (by rw [setF_0, wJ_self]) (by omega) (fun j hj => ?_) ?_
    · rw [← setF_s0, ← hJ_set]
      have rd : (wJ k 115 (setF (k.2.2.1 115) 0 j (fun x => k.2.2.1 115 (208 + x)))).2.2.1 115 (208 + j) = k.2.2.1 115 (208 + j) := by rw [wJ_s, setF_out (by omega)]
      simp (disch := first | assumption | omega | decide | ((repeat first | apply lyI | apply lyJ | apply lywI | apply lywJ | apply csI | apply csJ | apply cswI | apply cswJ); assumption)) only [f_X12_takes_b33, SM, LI, ↓li_m1, nI_add, pk_mul, nn_sub, nn_m1, nn_div, nn_rem, nn_nz, nn_mod, nJ_l, lN_add, lN_mul, nn_tb1, nI_bt, nn_and, nn_or, nn_xor, nn_shr, nn_1shl, nn_31, il_p, il_n, it_p, it_n, ie_p, ie_n, ie_b, ie_b1, ie_m, ie_mm, it_m, it_m0, il_m0, bI_rZ, Option.bind_some, bd2_some, Nat.add_zero, Nat.zero_add, if_true, if_false, Bool.false_eq_true, eq_self, hI_R, hJ_R, ng_t, ng_e, rd]
    · simp (disch := first | assumption | omega | decide | ((repeat first | apply lyI | apply lyJ | apply lywI | apply lywJ | apply csI | apply csJ | apply cswI | apply cswJ); assumption)) only [f_X12_takes_b33, SM, LI, ↓li_m1, nI_add, pk_mul, nn_sub, nn_m1, nn_div, nn_rem, nn_nz, nn_mod, nJ_l, lN_add, lN_mul, nn_tb1, nI_bt, nn_and, nn_or, nn_xor, nn_shr, nn_1shl, nn_31, il_p, il_n, it_p, it_n, ie_p, ie_n, ie_b, ie_b1, ie_m, ie_mm, it_m, it_m0, il_m0, bI_rZ, Option.bind_some, bd2_some, Nat.add_zero, Nat.zero_add, if_true, if_false, Bool.false_eq_true, eq_self, hI_R, hJ_R, ng_t, ng_e]
  have e3 : ∀ k : aH, LAY k → f_X12_takes_l63 113 (nI 0) k = some (wJ k 116 (setF (k.2.2.1 116) 0 44 (fun x => k.2.2.1 116 (176 + x)))) := fun k kl => by
    refine for0 (body := fun zz : Int32 × aH => f_X12_takes_b63 113 zz.1 zz.2) (fun j => (nI j, wJ k 116 (setF (k.2.2.1 116) 0 j (fun x => k.2.2.1 116 (176 + x))))) (44) (e := wJ k 116 (setF (k.2.2.1 116) 0 44 (fun x => k.2.2.1 116 (176 + x)))) (by rw [setF_0, wJ_self]) (by omega) (fun j hj => ?_) ?_
    · rw [← setF_s0, ← hJ_set]
      have rd : (wJ k 116 (setF (k.2.2.1 116) 0 j (fun x => k.2.2.1 116 (176 + x)))).2.2.1 116 (176 + j) = k.2.2.1 116 (176 + j) := by rw [wJ_s, setF_out (by omega)]
      simp (disch := first | assumption | omega | decide | ((repeat first | apply lyI | apply lyJ | apply lywI | apply lywJ | apply csI | apply csJ | apply cswI | apply cswJ); assumption)) only [f_X12_takes_b63, SM, LI, ↓li_m1, nI_add, pk_mul, nn_sub, nn_m1, nn_div, nn_rem, nn_nz, nn_mod, nJ_l, lN_add, lN_mul, nn_tb1, nI_bt, nn_and, nn_or, nn_xor, nn_shr, nn_1shl, nn_31, il_p, il_n, it_p, it_n, ie_p, ie_n, ie_b, ie_b1, ie_m, ie_mm, it_m, it_m0, il_m0, bI_rZ, Option.bind_some, bd2_some, Nat.add_zero, Nat.zero_add, if_true, if_false, Bool.false_eq_true, eq_self, hI_R, hJ_R, ng_t, ng_e, rd]
    · simp (disch := first | assumption | omega | decide | ((repeat first | apply lyI | apply lyJ | apply lywI | apply lywJ | apply csI | apply csJ | apply cswI | apply cswJ); assumption)) only [f_X12_takes_b63, SM, LI, ↓li_m1, nI_add, pk_mul, nn_sub, nn_m1, nn_div, nn_rem, nn_nz, nn_mod, nJ_l, lN_add, lN_mul, nn_tb1, nI_bt, nn_and, nn_or, nn_xor, nn_shr, nn_1shl, nn_31, il_p, il_n, it_p, it_n, ie_p, ie_n, ie_b, ie_b1, ie_m, ie_mm, it_m, it_m0, il_m0, bI_rZ, Option.bind_some, bd2_some, Nat.add_zero, Nat.zero_add, if_true, if_false, Bool.false_eq_true, eq_self, hI_R, hJ_R, ng_t, ng_e]
  have l4 : LAY (tkH k) := kl
  have c4 : ck (tkH k) 12 113 = some () := (SM (tkH k) l4).1
  have q2 := e2 (wI k 114 (setF (k.2.1 114) 0 400 (fun x => k.2.1 114 (1600 + x)))) kl
  have q3 : f_X12_takes_l63 113 (nI 0) (wJ (wI k 114 (setF (k.2.1 114) 0 400 (fun x => k.2.1 114 (1600 + x)))) 115 (setF (k.2.2.1 115) 0 52 (fun x => k.2.2.1 115 (208 + x)))) = some (tkH k) := e3 _ kl
  unfold f_X12_takes
  rw [show (0 : Int32) = nI 0 from rfl, e1, Option.bind_some]
  rw [show f_X12_takes_l33 113 (nI 0) (wI k 114 (setF (k.2.1 114) 0 400 (fun x => k.2.1 114 (1600 + x)))) = some (wJ (wI k 114 (setF (k.2.1 114) 0 400 (fun x => k.2.1 114 (1600 + x)))) 115 (setF (k.2.2.1 115) 0 52 (fun x => k.2.2.1 115 (208 + x)))) from q2, Option.bind_some, q3, Option.bind_some, c4, Option.bind_some]
theorem tk_f {k : aH} : FR k (tkH k) [114] [115, 116] [] [] := ((FR.wI (by decide) (by decide) (by decide)).tr (FR.wJ (by decide))).tr (FR.wJ (by decide))
theorem tk_4 {k : aH} {x : Nat} : (tkH k).2.1 114 x = if x < 400 then k.2.1 114 (1600 + x) else k.2.1 114 x := by
  show (wI k 114 (setF (k.2.1 114) 0 400 (fun x => k.2.1 114 (1600 + x)))).2.1 114 x = _
  rw [wI_s]
  by_cases e : x < 400
  · rw [if_pos e, setF_in0 e]
  · rw [if_neg e, setF_out (by omega)]
theorem tk_5 {k : aH} {x : Nat} : (tkH k).2.2.1 115 x = if x < 52 then k.2.2.1 115 (208 + x) else k.2.2.1 115 x := by
  show (wJ (wJ (wI k 114 (setF (k.2.1 114) 0 400 (fun x => k.2.1 114 (1600 + x)))) 115 (setF (k.2.2.1 115) 0 52 (fun x => k.2.2.1 115 (208 + x)))) 116 (setF (k.2.2.1 116) 0 44 (fun x => k.2.2.1 116 (176 + x)))).2.2.1 115 x = _
  rw [wJ_n (by decide), wJ_s]
  by_cases e : x < 52
  · rw [if_pos e, setF_in0 e]
  · rw [if_neg e, setF_out (by omega)]
theorem tk_6 {k : aH} {x : Nat} : (tkH k).2.2.1 116 x = if x < 44 then k.2.2.1 116 (176 + x) else k.2.2.1 116 x := by
  show (wJ (wJ (wI k 114 (setF (k.2.1 114) 0 400 (fun x => k.2.1 114 (1600 + x)))) 115 (setF (k.2.2.1 115) 0 52 (fun x => k.2.2.1 115 (208 + x)))) 116 (setF (k.2.2.1 116) 0 44 (fun x => k.2.2.1 116 (176 + x)))).2.2.1 116 x = _
  rw [wJ_s]
  by_cases e : x < 44
  · rw [if_pos e, setF_in0 e]
  · rw [if_neg e, setF_out (by omega)]
def CF1 : List Nat := [3, 11, 12, 13, 14, 15, 16, 17, 18, 19, 20, 21, 25, 26, 27]
/-- all but the present slot and the new one stays -/
def KLo (k k' : aH) (lo : Nat) : Prop := (∀ x, 400 * lo ≤ x → x < 1600 → k'.2.1 114 x = k.2.1 114 x) ∧ (∀ x, 52 * lo ≤ x → x < 208 → k'.2.2.1 115 x = k.2.2.1 115 x) ∧ ∀ x, 44 * lo ≤ x → x < 176 → k'.2.2.1 116 x = k.2.2.1 116 x
def RCr (o : OE) : Int32 := match o with
  | .inl _ => m1
  | .inr (_, A, _, Bv, _) => nI (cntB (cnP A Bv) (A 2))
def RCo (k k' : aH) (o : OE) : Prop := match o with
  | .inl (f, q) => FR k k' [114, 121, 122, 124] [115, 116, 123] [] CF1 ∧ KLo k k' 0 ∧ k'.2.1 113 3 = nI 9 ∧ k'.2.1 113 17 = nI f ∧ k'.2.1 113 18 = nI q ∧ k'.2.1 113 11 = nI 0
  | .inr (_, A, V, Bv, Q) => FR k k' [114, 121, 122, 124, 126] [115, 116, 123, 127, 128] [] CF1 ∧ KLo k k' 1 ∧ CM k' A (cnP A Bv) Q ∧ SY k' A (cnP A Bv) (anS A (cnP A Bv) Q) ∧ NRe k' 0 (cA A) V ∧ (k'.2.1 114 5 = nI 0 ∧ k'.2.1 114 6 = nI 0 ∧ k'.2.1 114 7 = m1) ∧ k'.2.1 113 3 = nI 0 ∧ k'.2.1 113 17 = nI 0 ∧ k'.2.1 113 18 = m1 ∧ k'.2.1 113 11 = nI 0
theorem cm_lo {k k' : aH} {A : Nat → Nat} {P : Nat → Bool} {Q : Nat → Nat → Bool} (e4 : ∀ x, x < 1600 → k'.2.1 114 x = k.2.1 114 x) (e5 : ∀ x, x < 208 → k'.2.2.1 115 x = k.2.2.1 115 x) (c : CM k A P Q) : CM k' A P Q := by
  obtain ⟨c1, c2, c3⟩ := c
  refine ⟨fun x hx h5 h6 h7 => ?_, fun w hw => ?_, fun q w hq hw => ?_⟩
  · rw [e4 _ (by omega)]
    exact c1 x hx h5 h6 h7
  · rw [e5 _ (by omega)]
    exact c2 w hw
  · rw [e5 _ (by omega)]
    exact c3 q w hq hw
theorem r_court {k : aH} (kl : LAY k) {T : Nat → Nat} (tb : ∀ j, T j < 256) (t120 : ∀ j, k.2.1 120 j = bS (T j)) {n t : Nat} (e11 : k.2.1 113 11 = nI t) (hn : n ≤ t) (ht : t ≤ 900) {A0 : Nat → Nat} {P0 : Nat → Bool} {Q0 : Nat → Nat → Bool} (cm : CM k A0 P0 Q0) (wf0 : WF A0) {o : OE} (of : ∀ f q, o = .inl (f, q) → f ≠ 0 ∧ f < 100) (od : ∀ i A V Bv Q, o = .inr (i, A, V, Bv, Q) → DV A V Bv Q) (hr : ∀ k0 k, DR k0 k T n 0 A00 V00 B00 Q00 → OEr k0 T n (f_X12_court_l44 113 (nI 1) k) o) : ∃ k', f_X12_court k 113 (nI n) = some (RCr o, k') ∧ RCo k k' o := by
  obtain ⟨k1, e1, f1, rc1⟩ := r_begins kl tb t120 e11 hn ht (mo := 900) (by omega) (by decide)
  have l1 := rc1.1
  have e2 := r_asNew l1
  obtain ⟨k3, e3, d3⟩ := r_nw0 rc1
  have l2 : LAY (anH k1) := l1
  have lp := hr k1 k3 d3
  have head : ∀ k4, f_X12_court_l44 113 (nI 1) k3 = some k4 → f_X12_court k 113 (nI n) = f_X12_court_j63 k4 113 := fun k4 h4 => by
    simp (disch := first | assumption | omega | decide | ((repeat first | apply lyI | apply lyJ | apply lywI | apply lywJ | apply csI | apply csJ | apply cswI | apply cswJ); assumption)) only [f_X12_court, SM, LI, ↓li_m1, nI_add, pk_mul, nn_sub, nn_m1, nn_div, nn_rem, nn_nz, nn_mod, nJ_l, lN_add, lN_mul, nn_tb1, nI_bt, nn_and, nn_or, nn_xor, nn_shr, nn_1shl, nn_31, il_p, il_n, it_p, it_n, ie_p, ie_n, ie_b, ie_b1, ie_m, ie_mm, it_m, it_m0, il_m0, bI_rZ, Option.bind_some, bd2_some, Nat.add_zero, Nat.zero_add, if_true, if_false, Bool.false_eq_true, eq_self, hI_R, hJ_R, ng_t, ng_e, e1, e2, e3, h4]
  rcases o with ⟨f, q⟩ | ⟨i, A, V, Bv, Q⟩
  · obtain ⟨f0, f9⟩ := of f q rfl
    obtain ⟨k4, e4, ⟨p1, p2, p3, p4⟩, l4, y19, y18, y11⟩ := lp
    have nf : ¬ nI f = nI 0 := d_ne (by omega) (by decide) f0
    have a4 : ∀ x, x < 1600 → k4.2.1 114 x = k.2.1 114 x := fun x hx => (p2 x hx).trans (by rw [f1.I 114 (by decide) (by decide) (by decide)])
    have a5 : ∀ x, x < 208 → k4.2.2.1 115 x = k.2.2.1 115 x := fun x hx => (p3 x hx).trans (by rw [f1.J 115 (by decide)])
    have a6 : ∀ x, x < 176 → k4.2.2.1 116 x = k.2.2.1 116 x := fun x hx => (p4 x hx).trans (by rw [f1.J 116 (by decide)])
    have sz := r_size l4 (cm_lo a4 a5 cm) wf0
    have tk := r_taken l4 y19 f9 (nI (cntB P0 (A0 2)))
    rw [if_neg f0] at tk
    have fz : FR k (hI (hI k4 113 17 (nI f)) 113 3 (nI 9)) [114, 121, 122, 124] [115, 116, 123] [] CF1 := (((f1.mono (by decide) (by decide) (by decide) (by decide)).tr (p1.mono (by decide) (by decide) (by decide) (by decide))).tr (fr_1 (by decide))).tr (fr_1 (by decide))
    refine ⟨hI (hI k4 113 17 (nI f)) 113 3 (nI 9), ?_, fz, ⟨fun x _ hx => a4 x hx, fun x _ hx => a5 x hx, fun x _ hx => a6 x hx⟩, rI_eq, ?_, ?_, ?_⟩
    · rw [head k4 e4]
      show _ = some (m1, _)
      simp (disch := first | assumption | omega | decide | ((repeat first | apply lyI | apply lyJ | apply lywI | apply lywJ | apply csI | apply csJ | apply cswI | apply cswJ); assumption)) only [f_X12_court_j63, f_X12_court_j89, SM, LI, ↓li_m1, nI_add, pk_mul, nn_sub, nn_m1, nn_div, nn_rem, nn_nz, nn_mod, nJ_l, lN_add, lN_mul, nn_tb1, nI_bt, nn_and, nn_or, nn_xor, nn_shr, nn_1shl, nn_31, il_p, il_n, it_p, it_n, ie_p, ie_n, ie_b, ie_b1, ie_m, ie_mm, it_m, it_m0, il_m0, bI_rZ, Option.bind_some, bd2_some, Nat.add_zero, Nat.zero_add, if_true, if_false, Bool.false_eq_true, eq_self, hI_R, hJ_R, ng_t, ng_e, y19, if_neg nf, sz, tk]
    · rw [rI_nk (by decide), rI_eq]
    · rw [rI_nk (by decide), rI_nk (by decide)]
      exact y18
    · rw [rI_nk (by decide), rI_nk (by decide)]
      exact y11
  · have dv := od i A V Bv Q rfl
    obtain ⟨wf, nv, a2, bb, -, zq, zz, vf, sq⟩ := id dv
    obtain ⟨b0, b1, b2l, b2, b3, b4⟩ := wf_b wf
    obtain ⟨k4, e4, d4⟩ := lp
    have l4 := d4.2.1.1
    have y19 : k4.2.1 113 19 = nI 0 := d4.2.1.2.2.1
    have q3 : k4.2.1 114 1603 = nI (A 3) := d4.2.2.2.1 3 (by decide) (by decide)
    /- the worlds that can be, if they were not found before -/
    have fd : ∃ k5, f_X12_court_j63 k4 113 = f_X12_court_j85 k5 113 ∧ FR k4 k5 [] [115] [] [] ∧ (∀ x, x < 208 ∨ 212 ≤ x → k5.2.2.1 115 x = k4.2.2.1 115 x) ∧ ∀ w, w < 256 → (k5.2.2.1 115 (208 + w / 64)).toBitVec.getLsbD (w % 64) = cnP A Bv w := by
      by_cases z3 : A 3 = 0
      · rw [z3] at q3
        obtain ⟨k5, e5, f5, o5, c5⟩ := r_finds l4 (A := A) (Bv := Bv) (fun x hx h3 => d4.2.2.2.1 x (by omega) (by omega)) wf d4.2.2.2.2.2.1 bb
        exact ⟨k5, by simp (disch := first | assumption | omega | decide | ((repeat first | apply lyI | apply lyJ | apply lywI | apply lywJ | apply csI | apply csJ | apply cswI | apply cswJ); assumption)) only [f_X12_court_j63, SM, LI, ↓li_m1, nI_add, pk_mul, nn_sub, nn_m1, nn_div, nn_rem, nn_nz, nn_mod, nJ_l, lN_add, lN_mul, nn_tb1, nI_bt, nn_and, nn_or, nn_xor, nn_shr, nn_1shl, nn_31, il_p, il_n, it_p, it_n, ie_p, ie_n, ie_b, ie_b1, ie_m, ie_mm, it_m, it_m0, il_m0, bI_rZ, Option.bind_some, bd2_some, Nat.add_zero, Nat.zero_add, if_true, if_false, Bool.false_eq_true, eq_self, hI_R, hJ_R, ng_t, ng_e, y19, q3, e5], f5, o5, c5⟩
      · have n3 : ¬ nI (A 3) = nI 0 := d_ne (by omega) (by decide) z3
        exact ⟨k4, by simp (disch := first | assumption | omega | decide | ((repeat first | apply lyI | apply lyJ | apply lywI | apply lywJ | apply csI | apply csJ | apply cswI | apply cswJ); assumption)) only [f_X12_court_j63, SM, LI, ↓li_m1, nI_add, pk_mul, nn_sub, nn_m1, nn_div, nn_rem, nn_nz, nn_mod, nJ_l, lN_add, lN_mul, nn_tb1, nI_bt, nn_and, nn_or, nn_xor, nn_shr, nn_1shl, nn_31, il_p, il_n, it_p, it_n, ie_p, ie_n, ie_b, ie_b1, ie_m, ie_mm, it_m, it_m0, il_m0, bI_rZ, Option.bind_some, bd2_some, Nat.add_zero, Nat.zero_add, if_true, if_false, Bool.false_eq_true, eq_self, hI_R, hJ_R, ng_t, ng_e, y19, q3, if_neg n3], FR.rf, fun _ _ => rfl, d4.2.2.2.2.2.2.1 (by omega)⟩
    obtain ⟨k5, e5, f5, o5, c5⟩ := fd
    have l5 := f5.lay l4
    have a5 : k5.2.1 114 = k4.2.1 114 := f5.I 114 (by decide) (by decide) (by decide)
    have l6 : LAY (tkH k5) := l5
    have cm6 : CM (tkH k5) A (cnP A Bv) Q := by
      refine ⟨fun x hx h5 h6 h7 => ?_, fun w hw => ?_, fun q w hq hw => ?_⟩
      · rw [Nat.zero_add, tk_4, if_pos (by omega), a5]
        exact d4.2.2.2.1 x hx h7
      · rw [Nat.zero_add, tk_5, if_pos (by omega)]
        exact c5 w hw
      · rw [tk_5, if_pos (by omega), show 208 + (0 + 4 + 4 * q + w / 64) = 212 + 4 * q + w / 64 by omega, o5 _ (by omega)]
        exact d4.2.2.2.2.2.2.2 q w hq hw
    obtain ⟨k7, e7, f7, sy7⟩ := r_lays l6 cm6 wf (wp_dv dv).2.1
    have l7 := f7.lay l6
    have cm7 := cm_fr f7 (by decide) (by decide) cm6
    have sz := r_size l7 cm7 wf
    have ft : FR k4 k7 [114, 126] [115, 116, 127, 128] [] [] := ((f5.mono (by decide) (by decide) (by decide) (by decide)).tr (tk_f.mono (by decide) (by decide) (by decide) (by decide))).tr (f7.mono (by decide) (by decide) (by decide) (by decide))
    have y19' : k7.2.1 113 19 = nI 0 := (ft.2.2.2.2.2 19 (by decide)).trans y19
    have tk := r_taken l7 y19' (by decide) (nI (cntB (cnP A Bv) (A 2)))
    rw [if_pos rfl] at tk
    have tks : f_X12_takes k5 113 = some k7 := by rw [r_tk l5, e7]; rfl
    obtain ⟨p1, p2, p3, p4⟩ := d4.1
    have fz : FR k (hI (hI k7 113 17 (nI 0)) 113 3 (nI 0)) [114, 121, 122, 124, 126] [115, 116, 123, 127, 128] [] CF1 := ((((f1.mono (by decide) (by decide) (by decide) (by decide)).tr (p1.mono (by decide) (by decide) (by decide) (by decide))).tr (ft.mono (by decide) (by decide) (by decide) (by decide))).tr (fr_1 (by decide))).tr (fr_1 (by decide))
    have z4 : ∀ x, k7.2.1 114 x = (tkH k5).2.1 114 x := fun x => by rw [f7.I 114 (by decide) (by decide) (by decide)]
    have z5 : ∀ x, k7.2.2.1 115 x = (tkH k5).2.2.1 115 x := fun x => by rw [f7.J 115 (by decide)]
    have z6 : ∀ x, k7.2.2.1 116 x = (tkH k5).2.2.1 116 x := fun x => by rw [f7.J 116 (by decide)]
    refine ⟨hI (hI k7 113 17 (nI 0)) 113 3 (nI 0), ?_, fz, ⟨fun x h1 h2 => ?_, fun x h1 h2 => ?_, fun x h1 h2 => ?_⟩, cm7, sy7, fun s j hs hj => ?_, ⟨?_, ?_, ?_⟩, rI_eq, ?_, ?_, ?_⟩
    · rw [head k4 e4, e5]
      show _ = some (nI (cntB (cnP A Bv) (A 2)), _)
      simp (disch := first | assumption | omega | decide | ((repeat first | apply lyI | apply lyJ | apply lywI | apply lywJ | apply csI | apply csJ | apply cswI | apply cswJ); assumption)) only [f_X12_court_j85, f_X12_court_j89, SM, LI, ↓li_m1, nI_add, pk_mul, nn_sub, nn_m1, nn_div, nn_rem, nn_nz, nn_mod, nJ_l, lN_add, lN_mul, nn_tb1, nI_bt, nn_and, nn_or, nn_xor, nn_shr, nn_1shl, nn_31, il_p, il_n, it_p, it_n, ie_p, ie_n, ie_b, ie_b1, ie_m, ie_mm, it_m, it_m0, il_m0, bI_rZ, Option.bind_some, bd2_some, Nat.add_zero, Nat.zero_add, if_true, if_false, Bool.false_eq_true, eq_self, hI_R, hJ_R, ng_t, ng_e, tks, sz, tk]
    · show k7.2.1 114 x = _
      rw [z4, tk_4, if_neg (by omega), a5, p2 x h2, f1.I 114 (by decide) (by decide) (by decide)]
    · show k7.2.2.1 115 x = _
      rw [z5, tk_5, if_neg (by omega), o5 x (Or.inl h2), p3 x h2, f1.J 115 (by decide)]
    · show k7.2.2.1 116 x = _
      rw [z6, tk_6, if_neg (by omega), f5.J 116 (by decide), p4 x h2, f1.J 116 (by decide)]
    · show k7.2.2.1 116 (0 + (nbN s + j)) = _
      have b44 : nbN s + j < 44 := by
        have := (nb_b nv hs).1
        omega
      rw [Nat.zero_add, z6, tk_6, if_pos b44, f5.J 116 (by decide)]
      exact d4.2.2.1 s j hs hj
    · show k7.2.1 114 5 = _
      rw [z4, tk_4, if_pos (by decide), a5, d4.2.2.2.1 5 (by decide) (by decide), zz.1]
    · show k7.2.1 114 6 = _
      rw [z4, tk_4, if_pos (by decide), a5, d4.2.2.2.1 6 (by decide) (by decide), zz.2]
    · show k7.2.1 114 7 = _
      rw [z4, tk_4, if_pos (by decide), a5]
      exact d4.2.2.2.2.1.1
    · rw [rI_nk (by decide), rI_eq]
    · rw [rI_nk (by decide), rI_nk (by decide), ft.2.2.2.2.2 18 (by decide)]
      exact d4.2.1.2.2.2.1
    · rw [rI_nk (by decide), rI_nk (by decide), ft.2.2.2.2.2 11 (by decide)]
      exact d4.2.1.2.2.2.2
/-! ===== a new case ===== -/
/-- g is h with cells more -/
def EXt (h g : aH) (L : List (Nat × Nat)) : Prop := g.1 = h.1 ++ L ∧ ∀ y, y < h.1.length → g.2.1 y = h.2.1 y ∧ g.2.2.1 y = h.2.2.1 y ∧ g.2.2.2 y = h.2.2.2 y
theorem ex_N {h g : aH} {L : List (Nat × Nat)} (e : EXt h g L) {c l a n : Nat} (hc : h.1.length = c) (hl : L.length = l) : nwO g a n = some (c + l, hN g a n) ∧ EXt h (hN g a n) (L ++ [(a, n)]) ∧ ∀ y k, y ≠ c + l → (hN g a n).2.2.2 y k = g.2.2.2 y k := by
  have gl : g.1.length = c + l := by rw [e.1, List.length_append, hc, hl]
  refine ⟨by unfold nwO; rw [gl], ⟨?_, fun y hy => ?_⟩, fun y k hy => ?_⟩
  · show g.1 ++ [(a, n)] = _
    rw [e.1, List.append_assoc]
  · obtain ⟨e1, e2, e3⟩ := e.2 y hy
    have ny : ¬ y = g.1.length := by omega
    refine ⟨?_, ?_, ?_⟩
    · show zr g.2.1 g.1.length 0 y = _
      unfold zr
      rw [if_neg ny]
      exact e1
    · show zr g.2.2.1 g.1.length 0 y = _
      unfold zr
      rw [if_neg ny]
      exact e2
    · show zr g.2.2.2 g.1.length none y = _
      unfold zr
      rw [if_neg ny]
      exact e3
  · show zr g.2.2.2 g.1.length none y k = _
    unfold zr
    rw [if_neg (by omega)]
theorem ex_kd {h g : aH} {L : List (Nat × Nat)} (e : EXt h g L) {c j : Nat} (hc : h.1.length = c) : kd g (c + j) = (L.getD j (99, 0)).1 := by
  unfold kd
  rw [e.1, ← hc, List.getD_eq_getElem?_getD, List.getD_eq_getElem?_getD, List.getElem?_append_right (Nat.le_add_right _ _), Nat.add_sub_cancel_left]
theorem ex_R {h g : aH} {L : List (Nat × Nat)} (e : EXt h g L) {c j q k : Nat} {x : Nat} (hc : h.1.length = c) (hk : (L.getD j (99, 0)).1 = q) : pR g q (c + j) k x = some (hR g (c + j) k (some x)) ∧ EXt h (hR g (c + j) k (some x)) L := by
  refine ⟨by unfold pR; rw [ex_kd e hc, if_pos hk], e.1, fun y hy => ?_⟩
  obtain ⟨e1, e2, e3⟩ := e.2 y hy
  refine ⟨e1, e2, ?_⟩
  funext z
  rw [rR_hR, if_neg (by omega), e3]
theorem ex_I {h g : aH} {L : List (Nat × Nat)} (e : EXt h g L) {c j q k : Nat} {x : Int32} (hc : h.1.length = c) (hk : (L.getD j (99, 0)).1 = q) : pI g q (c + j) k x = some (hI g (c + j) k x) ∧ EXt h (hI g (c + j) k x) L := by
  refine ⟨by unfold pI; rw [ex_kd e hc, if_pos hk], e.1, fun y hy => ?_⟩
  obtain ⟨e1, e2, e3⟩ := e.2 y hy
  refine ⟨?_, e2, e3⟩
  funext z
  rw [rI_hI, if_neg (by omega), e1]
theorem x_init1 {h : aH} {c : Nat} (hc : h.1.length = c) (c136 : 136 ≤ c) : ∃ g, f_X1_init (hN h 1 19) c = (ck g 1 c).bind (fun _ => (f_X1_clear g c).bind fun h38 => some h38) ∧ EXt h g ((SH0.drop 26).take 16) ∧ CS g c := by
  obtain ⟨-, e0, r0⟩ := ex_N (h := h) (g := h) (L := []) ⟨(List.append_nil _).symm, fun _ _ => ⟨rfl, rfl, rfl⟩⟩ hc rfl (a := 1) (n := 19)
  replace r0 : ∀ y k, y ≠ c → (hN h 1 19).2.2.2 y k = h.2.2.2 y k := r0
  have e0' : EXt h (hN h 1 19) [(1, 19)] := e0
  obtain ⟨n1, x1, r1⟩ := ex_N e0' hc (l := 1) rfl (a := 7) (n := 4)
  obtain ⟨g1, hg1⟩ : ∃ g, g = hN (hN h 1 19) 7 4 := ⟨_, rfl⟩
  rw [← hg1] at n1 x1 r1
  have y1 : EXt h g1 [(1, 19), (7, 4)] := x1
  obtain ⟨n2, x2, r2⟩ := ex_N y1 hc (l := 2) rfl (a := 21) (n := 44)
  obtain ⟨g2, hg2⟩ : ∃ g, g = hN g1 21 44 := ⟨_, rfl⟩
  rw [← hg2] at n2 x2 r2
  have y2 : EXt h g2 [(1, 19), (7, 4), (21, 44)] := x2
  obtain ⟨n3, x3⟩ := ex_R (k := 0) (x := c + 2) (j := 1) (q := 7) y2 hc rfl
  obtain ⟨g3, hg3⟩ : ∃ g, g = hR g2 (c + 1) 0 (some (c + 2)) := ⟨_, rfl⟩
  rw [← hg3] at n3 x3
  have y3 : EXt h g3 [(1, 19), (7, 4), (21, 44)] := x3
  have r3 : ∀ y k, ¬ (y = c + 1 ∧ k = 0) → g3.2.2.2 y k = g2.2.2.2 y k := fun y k hyk => by rw [hg3, rR_hR, if_neg hyk]
  have s3 : g3.2.2.2 (c + 1) 0 = some (c + 2) := by rw [hg3, rR_hR, if_pos ⟨rfl, rfl⟩]
  obtain ⟨n4, x4, r4⟩ := ex_N y3 hc (l := 3) rfl (a := 20) (n := 44)
  obtain ⟨g4, hg4⟩ : ∃ g, g = hN g3 20 44 := ⟨_, rfl⟩
  rw [← hg4] at n4 x4 r4
  have y4 : EXt h g4 [(1, 19), (7, 4), (21, 44), (20, 44)] := x4
  obtain ⟨n5, x5⟩ := ex_R (k := 1) (x := c + 3) (j := 1) (q := 7) y4 hc rfl
  obtain ⟨g5, hg5⟩ : ∃ g, g = hR g4 (c + 1) 1 (some (c + 3)) := ⟨_, rfl⟩
  rw [← hg5] at n5 x5
  have y5 : EXt h g5 [(1, 19), (7, 4), (21, 44), (20, 44)] := x5
  have r5 : ∀ y k, ¬ (y = c + 1 ∧ k = 1) → g5.2.2.2 y k = g4.2.2.2 y k := fun y k hyk => by rw [hg5, rR_hR, if_neg hyk]
  have s5 : g5.2.2.2 (c + 1) 1 = some (c + 3) := by rw [hg5, rR_hR, if_pos ⟨rfl, rfl⟩]
  obtain ⟨n6, x6, r6⟩ := ex_N y5 hc (l := 4) rfl (a := 20) (n := 44)
  obtain ⟨g6, hg6⟩ : ∃ g, g = hN g5 20 44 := ⟨_, rfl⟩
  rw [← hg6] at n6 x6 r6
  have y6 : EXt h g6 [(1, 19), (7, 4), (21, 44), (20, 44), (20, 44)] := x6
  obtain ⟨n7, x7⟩ := ex_R (k := 2) (x := c + 4) (j := 1) (q := 7) y6 hc rfl
  obtain ⟨g7, hg7⟩ : ∃ g, g = hR g6 (c + 1) 2 (some (c + 4)) := ⟨_, rfl⟩
  rw [← hg7] at n7 x7
  have y7 : EXt h g7 [(1, 19), (7, 4), (21, 44), (20, 44), (20, 44)] := x7
  have r7 : ∀ y k, ¬ (y = c + 1 ∧ k = 2) → g7.2.2.2 y k = g6.2.2.2 y k := fun y k hyk => by rw [hg7, rR_hR, if_neg hyk]
  have s7 : g7.2.2.2 (c + 1) 2 = some (c + 4) := by rw [hg7, rR_hR, if_pos ⟨rfl, rfl⟩]
  obtain ⟨n8, x8⟩ := ex_I (k := 3) (x := nI 0) (j := 1) (q := 7) y7 hc rfl
  obtain ⟨g8, hg8⟩ : ∃ g, g = hI g7 (c + 1) 3 (nI 0) := ⟨_, rfl⟩
  rw [← hg8] at n8 x8
  have y8 : EXt h g8 [(1, 19), (7, 4), (21, 44), (20, 44), (20, 44)] := x8
  have r8 : ∀ y k, g8.2.2.2 y k = g7.2.2.2 y k := fun y k => by rw [hg8]; rfl
  obtain ⟨n9, x9⟩ := ex_R (k := 0) (x := c + 1) (j := 0) (q := 1) y8 hc rfl
  obtain ⟨g9, hg9⟩ : ∃ g, g = hR g8 (c + 0) 0 (some (c + 1)) := ⟨_, rfl⟩
  rw [← hg9] at n9 x9
  have y9 : EXt h g9 [(1, 19), (7, 4), (21, 44), (20, 44), (20, 44)] := x9
  have r9 : ∀ y k, ¬ (y = c + 0 ∧ k = 0) → g9.2.2.2 y k = g8.2.2.2 y k := fun y k hyk => by rw [hg9, rR_hR, if_neg hyk]
  have s9 : g9.2.2.2 (c + 0) 0 = some (c + 1) := by rw [hg9, rR_hR, if_pos ⟨rfl, rfl⟩]
  obtain ⟨n10, x10, r10⟩ := ex_N y9 hc (l := 5) rfl (a := 20) (n := 5)
  obtain ⟨g10, hg10⟩ : ∃ g, g = hN g9 20 5 := ⟨_, rfl⟩
  rw [← hg10] at n10 x10 r10
  have y10 : EXt h g10 [(1, 19), (7, 4), (21, 44), (20, 44), (20, 44), (20, 5)] := x10
  obtain ⟨n11, x11⟩ := ex_R (k := 1) (x := c + 5) (j := 0) (q := 1) y10 hc rfl
  obtain ⟨g11, hg11⟩ : ∃ g, g = hR g10 (c + 0) 1 (some (c + 5)) := ⟨_, rfl⟩
  rw [← hg11] at n11 x11
  have y11 : EXt h g11 [(1, 19), (7, 4), (21, 44), (20, 44), (20, 44), (20, 5)] := x11
  have r11 : ∀ y k, ¬ (y = c + 0 ∧ k = 1) → g11.2.2.2 y k = g10.2.2.2 y k := fun y k hyk => by rw [hg11, rR_hR, if_neg hyk]
  have s11 : g11.2.2.2 (c + 0) 1 = some (c + 5) := by rw [hg11, rR_hR, if_pos ⟨rfl, rfl⟩]
  obtain ⟨n12, x12, r12⟩ := ex_N y11 hc (l := 6) rfl (a := 20) (n := 4)
  obtain ⟨g12, hg12⟩ : ∃ g, g = hN g11 20 4 := ⟨_, rfl⟩
  rw [← hg12] at n12 x12 r12
  have y12 : EXt h g12 [(1, 19), (7, 4), (21, 44), (20, 44), (20, 44), (20, 5), (20, 4)] := x12
  obtain ⟨n13, x13⟩ := ex_R (k := 2) (x := c + 6) (j := 0) (q := 1) y12 hc rfl
  obtain ⟨g13, hg13⟩ : ∃ g, g = hR g12 (c + 0) 2 (some (c + 6)) := ⟨_, rfl⟩
  rw [← hg13] at n13 x13
  have y13 : EXt h g13 [(1, 19), (7, 4), (21, 44), (20, 44), (20, 44), (20, 5), (20, 4)] := x13
  have r13 : ∀ y k, ¬ (y = c + 0 ∧ k = 2) → g13.2.2.2 y k = g12.2.2.2 y k := fun y k hyk => by rw [hg13, rR_hR, if_neg hyk]
  have s13 : g13.2.2.2 (c + 0) 2 = some (c + 6) := by rw [hg13, rR_hR, if_pos ⟨rfl, rfl⟩]
  obtain ⟨n14, x14, r14⟩ := ex_N y13 hc (l := 7) rfl (a := 20) (n := 24)
  obtain ⟨g14, hg14⟩ : ∃ g, g = hN g13 20 24 := ⟨_, rfl⟩
  rw [← hg14] at n14 x14 r14
  have y14 : EXt h g14 [(1, 19), (7, 4), (21, 44), (20, 44), (20, 44), (20, 5), (20, 4), (20, 24)] := x14
  obtain ⟨n15, x15⟩ := ex_R (k := 3) (x := c + 7) (j := 0) (q := 1) y14 hc rfl
  obtain ⟨g15, hg15⟩ : ∃ g, g = hR g14 (c + 0) 3 (some (c + 7)) := ⟨_, rfl⟩
  rw [← hg15] at n15 x15
  have y15 : EXt h g15 [(1, 19), (7, 4), (21, 44), (20, 44), (20, 44), (20, 5), (20, 4), (20, 24)] := x15
  have r15 : ∀ y k, ¬ (y = c + 0 ∧ k = 3) → g15.2.2.2 y k = g14.2.2.2 y k := fun y k hyk => by rw [hg15, rR_hR, if_neg hyk]
  have s15 : g15.2.2.2 (c + 0) 3 = some (c + 7) := by rw [hg15, rR_hR, if_pos ⟨rfl, rfl⟩]
  obtain ⟨n16, x16, r16⟩ := ex_N y15 hc (l := 8) rfl (a := 20) (n := 24)
  obtain ⟨g16, hg16⟩ : ∃ g, g = hN g15 20 24 := ⟨_, rfl⟩
  rw [← hg16] at n16 x16 r16
  have y16 : EXt h g16 [(1, 19), (7, 4), (21, 44), (20, 44), (20, 44), (20, 5), (20, 4), (20, 24), (20, 24)] := x16
  obtain ⟨n17, x17⟩ := ex_R (k := 4) (x := c + 8) (j := 0) (q := 1) y16 hc rfl
  obtain ⟨g17, hg17⟩ : ∃ g, g = hR g16 (c + 0) 4 (some (c + 8)) := ⟨_, rfl⟩
  rw [← hg17] at n17 x17
  have y17 : EXt h g17 [(1, 19), (7, 4), (21, 44), (20, 44), (20, 44), (20, 5), (20, 4), (20, 24), (20, 24)] := x17
  have r17 : ∀ y k, ¬ (y = c + 0 ∧ k = 4) → g17.2.2.2 y k = g16.2.2.2 y k := fun y k hyk => by rw [hg17, rR_hR, if_neg hyk]
  have s17 : g17.2.2.2 (c + 0) 4 = some (c + 8) := by rw [hg17, rR_hR, if_pos ⟨rfl, rfl⟩]
  obtain ⟨n18, x18, r18⟩ := ex_N y17 hc (l := 9) rfl (a := 20) (n := 256)
  obtain ⟨g18, hg18⟩ : ∃ g, g = hN g17 20 256 := ⟨_, rfl⟩
  rw [← hg18] at n18 x18 r18
  have y18 : EXt h g18 [(1, 19), (7, 4), (21, 44), (20, 44), (20, 44), (20, 5), (20, 4), (20, 24), (20, 24), (20, 256)] := x18
  obtain ⟨n19, x19⟩ := ex_R (k := 5) (x := c + 9) (j := 0) (q := 1) y18 hc rfl
  obtain ⟨g19, hg19⟩ : ∃ g, g = hR g18 (c + 0) 5 (some (c + 9)) := ⟨_, rfl⟩
  rw [← hg19] at n19 x19
  have y19 : EXt h g19 [(1, 19), (7, 4), (21, 44), (20, 44), (20, 44), (20, 5), (20, 4), (20, 24), (20, 24), (20, 256)] := x19
  have r19 : ∀ y k, ¬ (y = c + 0 ∧ k = 5) → g19.2.2.2 y k = g18.2.2.2 y k := fun y k hyk => by rw [hg19, rR_hR, if_neg hyk]
  have s19 : g19.2.2.2 (c + 0) 5 = some (c + 9) := by rw [hg19, rR_hR, if_pos ⟨rfl, rfl⟩]
  obtain ⟨n20, x20, r20⟩ := ex_N y19 hc (l := 10) rfl (a := 20) (n := 256)
  obtain ⟨g20, hg20⟩ : ∃ g, g = hN g19 20 256 := ⟨_, rfl⟩
  rw [← hg20] at n20 x20 r20
  have y20 : EXt h g20 [(1, 19), (7, 4), (21, 44), (20, 44), (20, 44), (20, 5), (20, 4), (20, 24), (20, 24), (20, 256), (20, 256)] := x20
  obtain ⟨n21, x21⟩ := ex_R (k := 6) (x := c + 10) (j := 0) (q := 1) y20 hc rfl
  obtain ⟨g21, hg21⟩ : ∃ g, g = hR g20 (c + 0) 6 (some (c + 10)) := ⟨_, rfl⟩
  rw [← hg21] at n21 x21
  have y21 : EXt h g21 [(1, 19), (7, 4), (21, 44), (20, 44), (20, 44), (20, 5), (20, 4), (20, 24), (20, 24), (20, 256), (20, 256)] := x21
  have r21 : ∀ y k, ¬ (y = c + 0 ∧ k = 6) → g21.2.2.2 y k = g20.2.2.2 y k := fun y k hyk => by rw [hg21, rR_hR, if_neg hyk]
  have s21 : g21.2.2.2 (c + 0) 6 = some (c + 10) := by rw [hg21, rR_hR, if_pos ⟨rfl, rfl⟩]
  obtain ⟨n22, x22, r22⟩ := ex_N y21 hc (l := 11) rfl (a := 20) (n := 12)
  obtain ⟨g22, hg22⟩ : ∃ g, g = hN g21 20 12 := ⟨_, rfl⟩
  rw [← hg22] at n22 x22 r22
  have y22 : EXt h g22 [(1, 19), (7, 4), (21, 44), (20, 44), (20, 44), (20, 5), (20, 4), (20, 24), (20, 24), (20, 256), (20, 256), (20, 12)] := x22
  obtain ⟨n23, x23⟩ := ex_R (k := 7) (x := c + 11) (j := 0) (q := 1) y22 hc rfl
  obtain ⟨g23, hg23⟩ : ∃ g, g = hR g22 (c + 0) 7 (some (c + 11)) := ⟨_, rfl⟩
  rw [← hg23] at n23 x23
  have y23 : EXt h g23 [(1, 19), (7, 4), (21, 44), (20, 44), (20, 44), (20, 5), (20, 4), (20, 24), (20, 24), (20, 256), (20, 256), (20, 12)] := x23
  have r23 : ∀ y k, ¬ (y = c + 0 ∧ k = 7) → g23.2.2.2 y k = g22.2.2.2 y k := fun y k hyk => by rw [hg23, rR_hR, if_neg hyk]
  have s23 : g23.2.2.2 (c + 0) 7 = some (c + 11) := by rw [hg23, rR_hR, if_pos ⟨rfl, rfl⟩]
  obtain ⟨n24, x24, r24⟩ := ex_N y23 hc (l := 12) rfl (a := 20) (n := 16)
  obtain ⟨g24, hg24⟩ : ∃ g, g = hN g23 20 16 := ⟨_, rfl⟩
  rw [← hg24] at n24 x24 r24
  have y24 : EXt h g24 [(1, 19), (7, 4), (21, 44), (20, 44), (20, 44), (20, 5), (20, 4), (20, 24), (20, 24), (20, 256), (20, 256), (20, 12), (20, 16)] := x24
  obtain ⟨n25, x25⟩ := ex_R (k := 8) (x := c + 12) (j := 0) (q := 1) y24 hc rfl
  obtain ⟨g25, hg25⟩ : ∃ g, g = hR g24 (c + 0) 8 (some (c + 12)) := ⟨_, rfl⟩
  rw [← hg25] at n25 x25
  have y25 : EXt h g25 [(1, 19), (7, 4), (21, 44), (20, 44), (20, 44), (20, 5), (20, 4), (20, 24), (20, 24), (20, 256), (20, 256), (20, 12), (20, 16)] := x25
  have r25 : ∀ y k, ¬ (y = c + 0 ∧ k = 8) → g25.2.2.2 y k = g24.2.2.2 y k := fun y k hyk => by rw [hg25, rR_hR, if_neg hyk]
  have s25 : g25.2.2.2 (c + 0) 8 = some (c + 12) := by rw [hg25, rR_hR, if_pos ⟨rfl, rfl⟩]
  obtain ⟨n26, x26, r26⟩ := ex_N y25 hc (l := 13) rfl (a := 20) (n := 4)
  obtain ⟨g26, hg26⟩ : ∃ g, g = hN g25 20 4 := ⟨_, rfl⟩
  rw [← hg26] at n26 x26 r26
  have y26 : EXt h g26 [(1, 19), (7, 4), (21, 44), (20, 44), (20, 44), (20, 5), (20, 4), (20, 24), (20, 24), (20, 256), (20, 256), (20, 12), (20, 16), (20, 4)] := x26
  obtain ⟨n27, x27⟩ := ex_R (k := 9) (x := c + 13) (j := 0) (q := 1) y26 hc rfl
  obtain ⟨g27, hg27⟩ : ∃ g, g = hR g26 (c + 0) 9 (some (c + 13)) := ⟨_, rfl⟩
  rw [← hg27] at n27 x27
  have y27 : EXt h g27 [(1, 19), (7, 4), (21, 44), (20, 44), (20, 44), (20, 5), (20, 4), (20, 24), (20, 24), (20, 256), (20, 256), (20, 12), (20, 16), (20, 4)] := x27
  have r27 : ∀ y k, ¬ (y = c + 0 ∧ k = 9) → g27.2.2.2 y k = g26.2.2.2 y k := fun y k hyk => by rw [hg27, rR_hR, if_neg hyk]
  have s27 : g27.2.2.2 (c + 0) 9 = some (c + 13) := by rw [hg27, rR_hR, if_pos ⟨rfl, rfl⟩]
  obtain ⟨n28, x28, r28⟩ := ex_N y27 hc (l := 14) rfl (a := 20) (n := 4)
  obtain ⟨g28, hg28⟩ : ∃ g, g = hN g27 20 4 := ⟨_, rfl⟩
  rw [← hg28] at n28 x28 r28
  have y28 : EXt h g28 [(1, 19), (7, 4), (21, 44), (20, 44), (20, 44), (20, 5), (20, 4), (20, 24), (20, 24), (20, 256), (20, 256), (20, 12), (20, 16), (20, 4), (20, 4)] := x28
  obtain ⟨n29, x29⟩ := ex_R (k := 10) (x := c + 14) (j := 0) (q := 1) y28 hc rfl
  obtain ⟨g29, hg29⟩ : ∃ g, g = hR g28 (c + 0) 10 (some (c + 14)) := ⟨_, rfl⟩
  rw [← hg29] at n29 x29
  have y29 : EXt h g29 [(1, 19), (7, 4), (21, 44), (20, 44), (20, 44), (20, 5), (20, 4), (20, 24), (20, 24), (20, 256), (20, 256), (20, 12), (20, 16), (20, 4), (20, 4)] := x29
  have r29 : ∀ y k, ¬ (y = c + 0 ∧ k = 10) → g29.2.2.2 y k = g28.2.2.2 y k := fun y k hyk => by rw [hg29, rR_hR, if_neg hyk]
  have s29 : g29.2.2.2 (c + 0) 10 = some (c + 14) := by rw [hg29, rR_hR, if_pos ⟨rfl, rfl⟩]
  obtain ⟨n30, x30, r30⟩ := ex_N y29 hc (l := 15) rfl (a := 20) (n := 12288)
  obtain ⟨g30, hg30⟩ : ∃ g, g = hN g29 20 12288 := ⟨_, rfl⟩
  rw [← hg30] at n30 x30 r30
  have y30 : EXt h g30 [(1, 19), (7, 4), (21, 44), (20, 44), (20, 44), (20, 5), (20, 4), (20, 24), (20, 24), (20, 256), (20, 256), (20, 12), (20, 16), (20, 4), (20, 4), (20, 12288)] := x30
  obtain ⟨n31, x31⟩ := ex_R (k := 11) (x := c + 15) (j := 0) (q := 1) y30 hc rfl
  obtain ⟨g31, hg31⟩ : ∃ g, g = hR g30 (c + 0) 11 (some (c + 15)) := ⟨_, rfl⟩
  rw [← hg31] at n31 x31
  have y31 : EXt h g31 [(1, 19), (7, 4), (21, 44), (20, 44), (20, 44), (20, 5), (20, 4), (20, 24), (20, 24), (20, 256), (20, 256), (20, 12), (20, 16), (20, 4), (20, 4), (20, 12288)] := x31
  have r31 : ∀ y k, ¬ (y = c + 0 ∧ k = 11) → g31.2.2.2 y k = g30.2.2.2 y k := fun y k hyk => by rw [hg31, rR_hR, if_neg hyk]
  have s31 : g31.2.2.2 (c + 0) 11 = some (c + 15) := by rw [hg31, rR_hR, if_pos ⟨rfl, rfl⟩]
  have z3 : g31.2.2.2 (c + 1) 0 = some (c + 2) := by
    rw [r31 _ _ (by omega), r30 _ _ (by omega), r29 _ _ (by omega), r28 _ _ (by omega), r27 _ _ (by omega), r26 _ _ (by omega), r25 _ _ (by omega), r24 _ _ (by omega), r23 _ _ (by omega), r22 _ _ (by omega), r21 _ _ (by omega), r20 _ _ (by omega), r19 _ _ (by omega), r18 _ _ (by omega), r17 _ _ (by omega), r16 _ _ (by omega), r15 _ _ (by omega), r14 _ _ (by omega), r13 _ _ (by omega), r12 _ _ (by omega), r11 _ _ (by omega), r10 _ _ (by omega), r9 _ _ (by omega), r8, r7 _ _ (by omega), r6 _ _ (by omega), r5 _ _ (by omega), r4 _ _ (by omega), s3]
  have z5 : g31.2.2.2 (c + 1) 1 = some (c + 3) := by
    rw [r31 _ _ (by omega), r30 _ _ (by omega), r29 _ _ (by omega), r28 _ _ (by omega), r27 _ _ (by omega), r26 _ _ (by omega), r25 _ _ (by omega), r24 _ _ (by omega), r23 _ _ (by omega), r22 _ _ (by omega), r21 _ _ (by omega), r20 _ _ (by omega), r19 _ _ (by omega), r18 _ _ (by omega), r17 _ _ (by omega), r16 _ _ (by omega), r15 _ _ (by omega), r14 _ _ (by omega), r13 _ _ (by omega), r12 _ _ (by omega), r11 _ _ (by omega), r10 _ _ (by omega), r9 _ _ (by omega), r8, r7 _ _ (by omega), r6 _ _ (by omega), s5]
  have z7 : g31.2.2.2 (c + 1) 2 = some (c + 4) := by
    rw [r31 _ _ (by omega), r30 _ _ (by omega), r29 _ _ (by omega), r28 _ _ (by omega), r27 _ _ (by omega), r26 _ _ (by omega), r25 _ _ (by omega), r24 _ _ (by omega), r23 _ _ (by omega), r22 _ _ (by omega), r21 _ _ (by omega), r20 _ _ (by omega), r19 _ _ (by omega), r18 _ _ (by omega), r17 _ _ (by omega), r16 _ _ (by omega), r15 _ _ (by omega), r14 _ _ (by omega), r13 _ _ (by omega), r12 _ _ (by omega), r11 _ _ (by omega), r10 _ _ (by omega), r9 _ _ (by omega), r8, s7]
  have z9 : g31.2.2.2 (c + 0) 0 = some (c + 1) := by
    rw [r31 _ _ (by omega), r30 _ _ (by omega), r29 _ _ (by omega), r28 _ _ (by omega), r27 _ _ (by omega), r26 _ _ (by omega), r25 _ _ (by omega), r24 _ _ (by omega), r23 _ _ (by omega), r22 _ _ (by omega), r21 _ _ (by omega), r20 _ _ (by omega), r19 _ _ (by omega), r18 _ _ (by omega), r17 _ _ (by omega), r16 _ _ (by omega), r15 _ _ (by omega), r14 _ _ (by omega), r13 _ _ (by omega), r12 _ _ (by omega), r11 _ _ (by omega), r10 _ _ (by omega), s9]
  have z11 : g31.2.2.2 (c + 0) 1 = some (c + 5) := by
    rw [r31 _ _ (by omega), r30 _ _ (by omega), r29 _ _ (by omega), r28 _ _ (by omega), r27 _ _ (by omega), r26 _ _ (by omega), r25 _ _ (by omega), r24 _ _ (by omega), r23 _ _ (by omega), r22 _ _ (by omega), r21 _ _ (by omega), r20 _ _ (by omega), r19 _ _ (by omega), r18 _ _ (by omega), r17 _ _ (by omega), r16 _ _ (by omega), r15 _ _ (by omega), r14 _ _ (by omega), r13 _ _ (by omega), r12 _ _ (by omega), s11]
  have z13 : g31.2.2.2 (c + 0) 2 = some (c + 6) := by
    rw [r31 _ _ (by omega), r30 _ _ (by omega), r29 _ _ (by omega), r28 _ _ (by omega), r27 _ _ (by omega), r26 _ _ (by omega), r25 _ _ (by omega), r24 _ _ (by omega), r23 _ _ (by omega), r22 _ _ (by omega), r21 _ _ (by omega), r20 _ _ (by omega), r19 _ _ (by omega), r18 _ _ (by omega), r17 _ _ (by omega), r16 _ _ (by omega), r15 _ _ (by omega), r14 _ _ (by omega), s13]
  have z15 : g31.2.2.2 (c + 0) 3 = some (c + 7) := by
    rw [r31 _ _ (by omega), r30 _ _ (by omega), r29 _ _ (by omega), r28 _ _ (by omega), r27 _ _ (by omega), r26 _ _ (by omega), r25 _ _ (by omega), r24 _ _ (by omega), r23 _ _ (by omega), r22 _ _ (by omega), r21 _ _ (by omega), r20 _ _ (by omega), r19 _ _ (by omega), r18 _ _ (by omega), r17 _ _ (by omega), r16 _ _ (by omega), s15]
  have z17 : g31.2.2.2 (c + 0) 4 = some (c + 8) := by
    rw [r31 _ _ (by omega), r30 _ _ (by omega), r29 _ _ (by omega), r28 _ _ (by omega), r27 _ _ (by omega), r26 _ _ (by omega), r25 _ _ (by omega), r24 _ _ (by omega), r23 _ _ (by omega), r22 _ _ (by omega), r21 _ _ (by omega), r20 _ _ (by omega), r19 _ _ (by omega), r18 _ _ (by omega), s17]
  have z19 : g31.2.2.2 (c + 0) 5 = some (c + 9) := by
    rw [r31 _ _ (by omega), r30 _ _ (by omega), r29 _ _ (by omega), r28 _ _ (by omega), r27 _ _ (by omega), r26 _ _ (by omega), r25 _ _ (by omega), r24 _ _ (by omega), r23 _ _ (by omega), r22 _ _ (by omega), r21 _ _ (by omega), r20 _ _ (by omega), s19]
  have z21 : g31.2.2.2 (c + 0) 6 = some (c + 10) := by
    rw [r31 _ _ (by omega), r30 _ _ (by omega), r29 _ _ (by omega), r28 _ _ (by omega), r27 _ _ (by omega), r26 _ _ (by omega), r25 _ _ (by omega), r24 _ _ (by omega), r23 _ _ (by omega), r22 _ _ (by omega), s21]
  have z23 : g31.2.2.2 (c + 0) 7 = some (c + 11) := by
    rw [r31 _ _ (by omega), r30 _ _ (by omega), r29 _ _ (by omega), r28 _ _ (by omega), r27 _ _ (by omega), r26 _ _ (by omega), r25 _ _ (by omega), r24 _ _ (by omega), s23]
  have z25 : g31.2.2.2 (c + 0) 8 = some (c + 12) := by
    rw [r31 _ _ (by omega), r30 _ _ (by omega), r29 _ _ (by omega), r28 _ _ (by omega), r27 _ _ (by omega), r26 _ _ (by omega), s25]
  have z27 : g31.2.2.2 (c + 0) 9 = some (c + 13) := by
    rw [r31 _ _ (by omega), r30 _ _ (by omega), r29 _ _ (by omega), r28 _ _ (by omega), s27]
  have z29 : g31.2.2.2 (c + 0) 10 = some (c + 14) := by
    rw [r31 _ _ (by omega), r30 _ _ (by omega), s29]
  have z31 : g31.2.2.2 (c + 0) 11 = some (c + 15) := by
    rw [s31]
  have i7 : f_X7_init g1 (c + 1) = some g8 := by
    unfold f_X7_init
    rw [n2, bd2_some, n3, Option.bind_some, n4, bd2_some, n5, Option.bind_some, n6, bd2_some, n7, Option.bind_some]
    have n8' : pI g7 7 (c + 1) 3 (0 : Int32) = some g8 := n8
    rw [n8', Option.bind_some]
  rw [Nat.add_zero] at n9 n11 n13 n15 n17 n19 n21 n23 n25 n27 n29 n31
  refine ⟨g31, ?_, ?_, ?_⟩
  · unfold f_X1_init
    rw [n1, bd2_some, i7, Option.bind_some, n9, Option.bind_some, n10, bd2_some, n11, Option.bind_some, n12, bd2_some, n13, Option.bind_some, n14, bd2_some, n15, Option.bind_some, n16, bd2_some, n17, Option.bind_some, n18, bd2_some, n19, Option.bind_some, n20, bd2_some, n21, Option.bind_some, n22, bd2_some, n23, Option.bind_some, n24, bd2_some, n25, Option.bind_some, n26, bd2_some, n27, Option.bind_some, n28, bd2_some, n29, Option.bind_some, n30, bd2_some, n31, Option.bind_some]
  · have e : (SH0.drop 26).take 16 = [(1, 19), (7, 4), (21, 44), (20, 44), (20, 44), (20, 5), (20, 4), (20, 24), (20, 24), (20, 256), (20, 256), (20, 12), (20, 16), (20, 4), (20, 4), (20, 12288)] := by decide +kernel
    rw [e]
    exact y31
  · refine ⟨Or.inr c136, fun j hj => ?_, ?_, fun k k1 k2 => ?_, ?_, ?_, ?_⟩
    · rw [y31.1, ← hc, List.getD_eq_getElem?_getD, List.getElem?_append_right (Nat.le_add_right _ _), Nat.add_sub_cancel_left]
      have e : ∀ j, j < 16 → (([(1, 19), (7, 4), (21, 44), (20, 44), (20, 44), (20, 5), (20, 4), (20, 24), (20, 24), (20, 256), (20, 256), (20, 12), (20, 16), (20, 4), (20, 4), (20, 12288)] : List (Nat × Nat))[j]?).getD (99, 0) = SH0.getD (26 + j) (99, 0) := by decide +kernel
      exact e j hj
    · exact z9
    · have q : k = 1 ∨ k = 2 ∨ k = 3 ∨ k = 4 ∨ k = 5 ∨ k = 6 ∨ k = 7 ∨ k = 8 ∨ k = 9 ∨ k = 10 ∨ k = 11 := by omega
      rcases q with rfl | rfl | rfl | rfl | rfl | rfl | rfl | rfl | rfl | rfl | rfl
      · exact z11
      · exact z13
      · exact z15
      · exact z17
      · exact z19
      · exact z21
      · exact z23
      · exact z25
      · exact z27
      · exact z29
      · exact z31
    · exact z3
    · exact z5
    · exact z7
theorem ex_lay {h g : aH} {L : List (Nat × Nat)} (e : EXt h g L) (hl : LAY h) : LAY g := by
  obtain ⟨⟨ext, e1⟩, e2⟩ := hl
  have ln : 136 ≤ h.1.length := by rw [e1, List.length_append, SH0_len]; omega
  refine ⟨⟨ext ++ L, by rw [e.1, e1, List.append_assoc]⟩, fun q hq => ?_⟩
  have q1 : ∀ q ∈ RT0, q.1 < 136 := by decide +kernel
  rw [(e.2 q.1 (by have := q1 q hq; omega)).2.2]
  exact e2 q hq
theorem cs_len {h : aH} {c : Nat} (hs : CS h c) : c + 15 < h.1.length := by
  rcases Nat.lt_or_ge (c + 15) h.1.length with u | u
  · exact u
  · have e := hs.2.1 15 (by decide)
    rw [List.getD_eq_getElem?_getD, List.getElem?_eq_none u] at e
    exact absurd e (by decide +kernel)
theorem ex_cs {h g : aH} {L : List (Nat × Nat)} (e : EXt h g L) {c : Nat} (hs : CS h c) : CS g c := by
  have ln := cs_len hs
  obtain ⟨h1, h2, h3, h4, h5, h6, h7⟩ := hs
  refine ⟨h1, fun j hj => ?_, ?_, fun k k1 k2 => ?_, ?_, ?_, ?_⟩
  · rw [e.1, List.getD_eq_getElem?_getD, List.getElem?_append_left (by omega), ← List.getD_eq_getElem?_getD]
    exact h2 j hj
  · rw [(e.2 c (by omega)).2.2]; exact h3
  · rw [(e.2 c (by omega)).2.2]; exact h4 k k1 k2
  · rw [(e.2 (c + 1) (by omega)).2.2]; exact h5
  · rw [(e.2 (c + 1) (by omega)).2.2]; exact h6
  · rw [(e.2 (c + 1) (by omega)).2.2]; exact h7
theorem ex_kc {h g : aH} {L : List (Nat × Nat)} (e : EXt h g L) {c : Nat} (hs : CS h c) : KC h g c := by
  have ln := cs_len hs
  exact ⟨fun j hj => (e.2 (c + j) (by omega)).1, (e.2 (c + 2) (by omega)).2.1, fun s => ex_cs e s⟩
/-- a heap with cells more holds all that the old one held -/
theorem inv_ext {h g : aH} {L : List (Nat × Nat)} (e : EXt h g L) (l16 : L.length % 16 = 0) (iv : Inv h) : Inv g := by
  obtain ⟨i1, ⟨b, p, i2⟩, i3, i4, i5, i6, i7, i8, i9, i10, i11, i12⟩ := iv
  have ln : 136 ≤ h.1.length := by
    obtain ⟨⟨ext, e1⟩, -⟩ := i1
    rw [e1, List.length_append, SH0_len]
    omega
  have eI : ∀ y, y < 136 → g.2.1 y = h.2.1 y := fun y hy => (e.2 y (by omega)).1
  have eJ : ∀ y, y < 136 → g.2.2.1 y = h.2.2.1 y := fun y hy => (e.2 y (by omega)).2.1
  have eR : ∀ y, y < 136 → g.2.2.2 y = h.2.2.2 y := fun y hy => (e.2 y (by omega)).2.2
  have ks : ∀ s, KS h g s s := fun s => ⟨fun _ _ => by rw [eI 114 (by decide)], fun _ _ => by rw [eJ 115 (by decide)], fun _ _ => by rw [eJ 116 (by decide)]⟩
  have pl := i2.2.2.2.2.2.2.2.1
  have p10 := i2.2.2.2.2.2.2.2.2.2.1
  refine ⟨ex_lay e i1, ⟨b, p, pb_k (ex_kc e i2.2.2.1.1) (ks 0) (fun y _ hy => eI y (by omega)) (eI 126 (by decide)) (by rw [eR 0 (by decide)]) (by rw [eR 52 (by decide)]) ?_ p10 ?_ ?_ i2⟩, mks_k ⟨fun i hi => by rw [eR _ (by omega)], fun y _ hy => eI y (by omega), fun s _ _ => ks s, by rw [eI 0 (by decide)], by rw [eI 113 (by decide)]⟩ (fun i b mb => ex_kc e mb.2.1.1) i3, ?_, ?_, ?_, ?_, ?_, ?_, ?_, ?_, ?_⟩
  · refine plo_k (kp_same (fun j hj => eI _ (by omega))) ?_ (fun x _ _ => ?_) pl
    · rw [eI 114 (by decide)]
    · rw [eI 114 (by decide)]
  · rw [eR 0 (by decide)]
    exact i2.2.2.2.2.2.2.2.2.2.2.1
  · rw [eR 0 (by decide)]
    exact i2.2.2.2.2.2.2.2.2.2.2.2
  · refine ⟨?_, fun i hi c hc => ?_⟩
    · rw [e.1, List.length_append]
      have := i4.1
      omega
    · rw [eR 11 (by decide)] at hc
      obtain ⟨y1, y2⟩ := i4.2 i hi c hc
      exact ⟨ex_cs e y1, y2⟩
  · unfold TR
    rw [eI 1 (by decide), eI 2 (by decide), eJ 3 (by decide), eI 117 (by decide), eI 118 (by decide), eJ 119 (by decide)]
    exact i5
  · unfold ST
    rw [eI 0 (by decide), eI 113 (by decide)]
    exact i6
  · unfold FQ
    rw [eJ 0 (by decide), eJ 113 (by decide)]
    exact i7
  · unfold FP
    rw [eI 0 (by decide), eI 113 (by decide)]
    exact i8
  · unfold SA
    rw [eI 0 (by decide), eI 113 (by decide), eI 13 (by decide), eI 135 (by decide)]
    exact i9
  · unfold TP
    rw [eI 4 (by decide), eI 113 (by decide), eI 5 (by decide), eI 120 (by decide)]
    exact i10
  · unfold FA
    rw [eI 4 (by decide), eI 113 (by decide)]
    exact i11
  · intro k hk
    rw [eJ 6 (by decide)]
    exact i12 k hk
/-! ===== a case that nothing holds ===== -/
theorem x_marked {h : aH} (hl : LAY h) {K : Nat} (K3 : K ≤ 3) (k1 : h.2.1 0 14 = nI K) {ci : Nat → Nat} (hc : ∀ i, i < K → h.2.2.2 (77 + 12 * i) 2 = some (ci i)) {t : Nat} : f_X11_isMarked h 0 t = some (bI (anyB (fun i => decide (ci i = t)) K)) := by
  have := srch (body := fun q : Int32 => f_X11_isMarked_b2 h 0 t q) (s := nI 0) (fun j => nI j) (fun i => decide (ci i = t)) K (fun _ => (Sum.inl () : Unit ⊕ Unit)) (Sum.inr ()) rfl (by omega) (fun j hj hx => ?_) (fun j hj hx => ?_) ?_
  · have e : f_X11_isMarked_l2 h 0 t (nI 0) = _ := this
    rw [anyB_first]
    cases hf : firstB (fun i => decide (ci i = t)) K with
    | none =>
      rw [hf] at e
      rw [show (none : Option Nat).isSome = false from rfl, bI_f]
      simp (disch := first | assumption | omega | decide | ((repeat first | apply lyI | apply lyJ | apply lywI | apply lywJ | apply csI | apply csJ | apply cswI | apply cswJ); assumption)) only [f_X11_isMarked, LI, ↓li_m1, nI_add, pk_mul, nn_sub, nn_m1, nn_div, nn_rem, nn_nz, nn_mod, nJ_l, lN_add, lN_mul, nn_tb1, nI_bt, nn_and, nn_or, nn_xor, nn_shr, nn_1shl, nn_31, il_p, il_n, it_p, it_n, ie_p, ie_n, ie_b, ie_b1, ie_m, ie_mm, it_m, it_m0, il_m0, bI_rZ, Option.bind_some, bd2_some, Nat.add_zero, Nat.zero_add, if_true, if_false, Bool.false_eq_true, eq_self, hI_R, hJ_R, ng_t, ng_e, e]
    | some j =>
      rw [hf] at e
      rw [show (some j : Option Nat).isSome = true from rfl, bI_t]
      simp (disch := first | assumption | omega | decide | ((repeat first | apply lyI | apply lyJ | apply lywI | apply lywJ | apply csI | apply csJ | apply cswI | apply cswJ); assumption)) only [f_X11_isMarked, LI, ↓li_m1, nI_add, pk_mul, nn_sub, nn_m1, nn_div, nn_rem, nn_nz, nn_mod, nJ_l, lN_add, lN_mul, nn_tb1, nI_bt, nn_and, nn_or, nn_xor, nn_shr, nn_1shl, nn_31, il_p, il_n, it_p, it_n, ie_p, ie_n, ie_b, ie_b1, ie_m, ie_mm, it_m, it_m0, il_m0, bI_rZ, Option.bind_some, bd2_some, Nat.add_zero, Nat.zero_add, if_true, if_false, Bool.false_eq_true, eq_self, hI_R, hJ_R, ng_t, ng_e, e]
  · obtain ⟨m1', m2', m3', m4'⟩ := rt_m j (by omega)
    have y1 := lq_m hl (i := j) (by omega)
    have y2 : gR h 5 (77 + 12 * j) 2 = some (ci j) := by rw [gR_D hl 2 m2' (by decide)]; exact hc j hj
    have ne : ¬ ci j = t := by simpa using hx
    simp (disch := first | assumption | omega | decide | ((repeat first | apply lyI | apply lyJ | apply lywI | apply lywJ | apply csI | apply csJ | apply cswI | apply cswJ); assumption)) only [f_X11_isMarked_b2, S0, LI, ↓li_m1, nI_add, pk_mul, nn_sub, nn_m1, nn_div, nn_rem, nn_nz, nn_mod, nJ_l, lN_add, lN_mul, nn_tb1, nI_bt, nn_and, nn_or, nn_xor, nn_shr, nn_1shl, nn_31, il_p, il_n, it_p, it_n, ie_p, ie_n, ie_b, ie_b1, ie_m, ie_mm, it_m, it_m0, il_m0, bI_rZ, Option.bind_some, bd2_some, Nat.add_zero, Nat.zero_add, if_true, if_false, Bool.false_eq_true, eq_self, hI_R, hJ_R, ng_t, ng_e, k1, y1, y2, if_neg ne]
  · obtain ⟨m1', m2', m3', m4'⟩ := rt_m j (by omega)
    have y1 := lq_m hl (i := j) (by omega)
    have y2 : gR h 5 (77 + 12 * j) 2 = some (ci j) := by rw [gR_D hl 2 m2' (by decide)]; exact hc j hj
    have ee : ci j = t := by simpa using hx
    simp (disch := first | assumption | omega | decide | ((repeat first | apply lyI | apply lyJ | apply lywI | apply lywJ | apply csI | apply csJ | apply cswI | apply cswJ); assumption)) only [f_X11_isMarked_b2, S0, LI, ↓li_m1, nI_add, pk_mul, nn_sub, nn_m1, nn_div, nn_rem, nn_nz, nn_mod, nJ_l, lN_add, lN_mul, nn_tb1, nI_bt, nn_and, nn_or, nn_xor, nn_shr, nn_1shl, nn_31, il_p, il_n, it_p, it_n, ie_p, ie_n, ie_b, ie_b1, ie_m, ie_mm, it_m, it_m0, il_m0, bI_rZ, Option.bind_some, bd2_some, Nat.add_zero, Nat.zero_add, if_true, if_false, Bool.false_eq_true, eq_self, hI_R, hJ_R, ng_t, ng_e, k1, y1, y2, if_pos ee]
  · simp (disch := first | assumption | omega | decide | ((repeat first | apply lyI | apply lyJ | apply lywI | apply lywJ | apply csI | apply csJ | apply cswI | apply cswJ); assumption)) only [f_X11_isMarked_b2, S0, LI, ↓li_m1, nI_add, pk_mul, nn_sub, nn_m1, nn_div, nn_rem, nn_nz, nn_mod, nJ_l, lN_add, lN_mul, nn_tb1, nI_bt, nn_and, nn_or, nn_xor, nn_shr, nn_1shl, nn_31, il_p, il_n, it_p, it_n, ie_p, ie_n, ie_b, ie_b1, ie_m, ie_mm, it_m, it_m0, il_m0, bI_rZ, Option.bind_some, bd2_some, Nat.add_zero, Nat.zero_add, if_true, if_false, Bool.false_eq_true, eq_self, hI_R, hJ_R, ng_t, ng_e, k1]
theorem inv_R11 {h : aH} {i c : Nat} (hi : i < 5) (hs : CS h c) (al : ALc c) (iv : Inv h) : Inv (hR h 11 i (some c)) := by
  obtain ⟨i1, ⟨b, p, i2⟩, i3, i4, i5, i6, i7, i8, i9, i10, i11, i12⟩ := iv
  have ks : ∀ s, KS h (hR h 11 i (some c)) s s := fun s => ⟨fun _ _ => rfl, fun _ _ => rfl, fun _ _ => rfl⟩
  have kc : ∀ c', KC h (hR h 11 i (some c)) c' := fun c' => kc_R (by decide) (by decide) (by decide)
  have rt : ∀ q ∈ RT0, ¬ (q.1 = 11 ∧ q.2.1 = i) := by
    have : ∀ q ∈ RT0, q.1 ≠ 11 := by decide +kernel
    exact fun q hq z => this q hq z.1
  refine ⟨lay_Rg rt i1, ⟨b, p, pb_k (kc _) (ks 0) (fun _ _ _ => rfl) rfl (rR_ne (by omega)) (rR_ne (by omega)) i2.2.2.2.2.2.2.2.1 i2.2.2.2.2.2.2.2.2.2.1 ?_ ?_ i2⟩, mks_k ⟨fun j hj => rR_ne (by omega), fun _ _ _ => rfl, fun s _ _ => ks s, rfl, rfl⟩ (fun j b _ => kc b.c) i3, ⟨i4.1, fun j hj c' hc' => ?_⟩, i5, i6, i7, i8, i9, i10, i11, i12⟩
  · rw [rR_ne (by omega)]
    exact i2.2.2.2.2.2.2.2.2.2.2.1
  · rw [rR_ne (by omega)]
    exact i2.2.2.2.2.2.2.2.2.2.2.2
  · by_cases e : j = i
    · subst e
      rw [rR_eq] at hc'
      obtain rfl := Option.some.inj hc'
      exact ⟨(kc _).2.2 hs, al⟩
    · rw [rR_ne (by omega)] at hc'
      exact ⟨(kc c').2.2 (i4.2 j hj c' hc').1, (i4.2 j hj c' hc').2⟩
theorem x_init {h : aH} (iv : Inv h) : ∃ g, f_X1_init (hN h 1 19) h.1.length = some g ∧ Inv g ∧ CS g h.1.length ∧ ALc h.1.length ∧ (∀ y, y < 136 → g.2.1 y = h.2.1 y ∧ g.2.2.2 y = h.2.2.2 y) := by
  have i1 := iv.1
  have i4 := iv.2.2.2.1
  have ln : 136 ≤ h.1.length := by
    obtain ⟨⟨ext, e1⟩, -⟩ := i1
    rw [e1, List.length_append, SH0_len]
    omega
  obtain ⟨g, e, ex, sg⟩ := x_init1 (h := h) rfl ln
  obtain ⟨g2, e2, f2, -⟩ := x_clear sg
  have ck' : ck g 1 h.1.length = some () := (SC g _ sg).1
  have ex2 : EXt h g2 ((SH0.drop 26).take 16) := by
    refine ⟨by rw [f2.1]; exact ex.1, fun y hy => ?_⟩
    obtain ⟨a1, a2, a3⟩ := ex.2 y hy
    refine ⟨?_, by rw [f2.J y (by simp)]; exact a2, by rw [f2.2.1]; exact a3⟩
    by_cases h0 : y = 0
    · subst h0
      rw [← a1]
      exact funext fun k => f2.2.2.2.2.1 k (by simp)
    · by_cases h1 : y = 113
      · subst h1
        rw [← a1]
        exact funext fun k => f2.2.2.2.2.2 k (by simp)
      · rw [f2.I y (by simp <;> omega) h0 h1]
        exact a1
  have lL : ((SH0.drop 26).take 16).length % 16 = 0 := by decide +kernel
  refine ⟨g2, ?_, inv_ext ex2 lL iv, cs_fr f2 sg, Or.inr ⟨ln, i4.1⟩, fun y hy => ⟨(ex2.2 y (by omega)).1, (ex2.2 y (by omega)).2.2⟩⟩
  rw [e, ck', Option.bind_some, e2, Option.bind_some]
theorem x_free {h : aH} (iv : Inv h) : ∃ c h5 K, f_X11_freeCase h 0 = some (c, h5) ∧ Inv h5 ∧ CS h5 c ∧ ALc c ∧ h5.2.2.2 0 11 ≠ some c ∧ K ≤ 3 ∧ h5.2.1 0 14 = nI K ∧ (∀ i, i < K → h5.2.2.2 (77 + 12 * i) 2 ≠ some c) ∧ h5.2.1 4 6 = h.2.1 4 6 := by
  obtain ⟨i1, ⟨b, p, i2⟩, ⟨K, K3, k1, k2, k3⟩, i4, -⟩ := id iv
  have now := i2.1
  have hl := i1
  let ci := fun i => (h.2.2.2 (77 + 12 * i) 2).getD 0
  have hci : ∀ i, i < K → h.2.2.2 (77 + 12 * i) 2 = some (ci i) ∧ ci i + 15 < h.1.length := fun i hi => by
    obtain ⟨bi, mb⟩ := k3 i hi
    have e := mb.1
    have e2 : ci i = bi.c := by
      show (h.2.2.2 (77 + 12 * i) 2).getD 0 = _
      rw [e]
      rfl
    rw [e2]
    exact ⟨e, cs_len mb.2.1.1⟩
  have bl := cs_len i2.2.2.1.1
  let mk := fun t => anyB (fun i => decide (ci i = t)) K
  let ok := fun i => match h.2.2.2 11 i with
    | none => true
    | some t => !decide (t = b.c) && !mk t
  let ex := fun i => match h.2.2.2 11 i with
    | none => (Sum.inl (nI i) : Int32 ⊕ (Nat ⊕ Unit))
    | some t => .inr (.inl t)
  have lr : ∀ i, i < 5 → lR h 24 11 (nI i) = some (h.2.2.2 11 i) := fun i hi => by
    unfold lR
    rw [inb_L hl (t := 24) (a := 11) (j := i) rfl (by decide) hi (by decide), nI_clamp (by omega)]
    rfl
  have an : aN h 11 = some (nI 5) := aN_L hl (by decide)
  have mkE : ∀ t, f_X11_isMarked h 0 t = some (bI (mk t)) := fun t => x_marked hl K3 k1 (fun i hi => (hci i hi).1)
  have lp : f_X11_freeCase_l2 h 0 (nI 0) = some (match firstB ok 5 with | some j => ex j | none => .inr (.inr ())) := by
    refine srch (body := fun q : Int32 => f_X11_freeCase_b2 h 0 q) (s := nI 0) (fun j => nI j) ok 5 ex (Sum.inr (Sum.inr ())) rfl (by omega) (fun j hj hx => ?_) (fun j hj hx => ?_) ?_
    · have l := lr j hj
      cases hr : h.2.2.2 11 j with
      | none =>
        have : ok j = true := by
          show (match h.2.2.2 11 j with | none => true | some t => !decide (t = b.c) && !mk t) = true
          rw [hr]
        rw [this] at hx
        cases hx
      | some t =>
        have oj : ok j = (!decide (t = b.c) && !mk t) := by
          show (match h.2.2.2 11 j with | none => true | some t => !decide (t = b.c) && !mk t) = _
          rw [hr]
        rw [hr] at l
        rw [oj] at hx
        by_cases et : t = b.c
        · simp (disch := first | assumption | omega | decide | ((repeat first | apply lyI | apply lyJ | apply lywI | apply lywJ | apply csI | apply csJ | apply cswI | apply cswJ); assumption)) only [f_X11_freeCase_b2, f_X11_freeCase_j57, S0, LI, ↓li_m1, nI_add, pk_mul, nn_sub, nn_m1, nn_div, nn_rem, nn_nz, nn_mod, nJ_l, lN_add, lN_mul, nn_tb1, nI_bt, nn_and, nn_or, nn_xor, nn_shr, nn_1shl, nn_31, il_p, il_n, it_p, it_n, ie_p, ie_n, ie_b, ie_b1, ie_m, ie_mm, it_m, it_m0, il_m0, bI_rZ, Option.bind_some, bd2_some, Nat.add_zero, Nat.zero_add, if_true, if_false, Bool.false_eq_true, eq_self, hI_R, hJ_R, ng_t, ng_e, an, l, now, if_pos et]
        · rw [decide_eq_false et, show (!false) = true from rfl, Bool.true_and] at hx
          have mt : mk t = true := by simpa using hx
          have me := mkE t
          rw [mt, bI_t] at me
          simp (disch := first | assumption | omega | decide | ((repeat first | apply lyI | apply lyJ | apply lywI | apply lywJ | apply csI | apply csJ | apply cswI | apply cswJ); assumption)) only [f_X11_freeCase_b2, f_X11_freeCase_j57, S0, LI, ↓li_m1, nI_add, pk_mul, nn_sub, nn_m1, nn_div, nn_rem, nn_nz, nn_mod, nJ_l, lN_add, lN_mul, nn_tb1, nI_bt, nn_and, nn_or, nn_xor, nn_shr, nn_1shl, nn_31, il_p, il_n, it_p, it_n, ie_p, ie_n, ie_b, ie_b1, ie_m, ie_mm, it_m, it_m0, il_m0, bI_rZ, Option.bind_some, bd2_some, Nat.add_zero, Nat.zero_add, if_true, if_false, Bool.false_eq_true, eq_self, hI_R, hJ_R, ng_t, ng_e, an, l, now, if_neg et, me]
    · have l := lr j hj
      show f_X11_freeCase_b2 h 0 (nI j) = some (.inr (ex j))
      cases hr : h.2.2.2 11 j with
      | none =>
        have ej : ex j = .inl (nI j) := by
          show (match h.2.2.2 11 j with | none => (Sum.inl (nI j) : Int32 ⊕ (Nat ⊕ Unit)) | some t => .inr (.inl t)) = _
          rw [hr]
        rw [hr] at l
        rw [ej]
        simp (disch := first | assumption | omega | decide | ((repeat first | apply lyI | apply lyJ | apply lywI | apply lywJ | apply csI | apply csJ | apply cswI | apply cswJ); assumption)) only [f_X11_freeCase_b2, S0, LI, ↓li_m1, nI_add, pk_mul, nn_sub, nn_m1, nn_div, nn_rem, nn_nz, nn_mod, nJ_l, lN_add, lN_mul, nn_tb1, nI_bt, nn_and, nn_or, nn_xor, nn_shr, nn_1shl, nn_31, il_p, il_n, it_p, it_n, ie_p, ie_n, ie_b, ie_b1, ie_m, ie_mm, it_m, it_m0, il_m0, bI_rZ, Option.bind_some, bd2_some, Nat.add_zero, Nat.zero_add, if_true, if_false, Bool.false_eq_true, eq_self, hI_R, hJ_R, ng_t, ng_e, an, l]
      | some t =>
        have ej : ex j = .inr (.inl t) := by
          show (match h.2.2.2 11 j with | none => (Sum.inl (nI j) : Int32 ⊕ (Nat ⊕ Unit)) | some t => .inr (.inl t)) = _
          rw [hr]
        have oj : ok j = (!decide (t = b.c) && !mk t) := by
          show (match h.2.2.2 11 j with | none => true | some t => !decide (t = b.c) && !mk t) = _
          rw [hr]
        rw [hr] at l
        rw [oj] at hx
        have hx' : ¬ t = b.c ∧ mk t = false := by
          rw [Bool.and_eq_true] at hx
          exact ⟨by simpa using hx.1, by simpa using hx.2⟩
        have me := mkE t
        rw [hx'.2, bI_f] at me
        rw [ej]
        simp (disch := first | assumption | omega | decide | ((repeat first | apply lyI | apply lyJ | apply lywI | apply lywJ | apply csI | apply csJ | apply cswI | apply cswJ); assumption)) only [f_X11_freeCase_b2, S0, LI, ↓li_m1, nI_add, pk_mul, nn_sub, nn_m1, nn_div, nn_rem, nn_nz, nn_mod, nJ_l, lN_add, lN_mul, nn_tb1, nI_bt, nn_and, nn_or, nn_xor, nn_shr, nn_1shl, nn_31, il_p, il_n, it_p, it_n, ie_p, ie_n, ie_b, ie_b1, ie_m, ie_mm, it_m, it_m0, il_m0, bI_rZ, Option.bind_some, bd2_some, Nat.add_zero, Nat.zero_add, if_true, if_false, Bool.false_eq_true, eq_self, hI_R, hJ_R, ng_t, ng_e, an, l, now, if_neg hx'.1, me]
    · simp (disch := first | assumption | omega | decide | ((repeat first | apply lyI | apply lyJ | apply lywI | apply lywJ | apply csI | apply csJ | apply cswI | apply cswJ); assumption)) only [f_X11_freeCase_b2, S0, LI, ↓li_m1, nI_add, pk_mul, nn_sub, nn_m1, nn_div, nn_rem, nn_nz, nn_mod, nJ_l, lN_add, lN_mul, nn_tb1, nI_bt, nn_and, nn_or, nn_xor, nn_shr, nn_1shl, nn_31, il_p, il_n, it_p, it_n, ie_p, ie_n, ie_b, ie_b1, ie_m, ie_mm, it_m, it_m0, il_m0, bI_rZ, Option.bind_some, bd2_some, Nat.add_zero, Nat.zero_add, if_true, if_false, Bool.false_eq_true, eq_self, hI_R, hJ_R, ng_t, ng_e, an]
  obtain ⟨g, eg, ig, sg, al, lo⟩ := x_init iv
  have nw : nwO h 1 19 = some (h.1.length, hN h 1 19) := rfl
  have ln : 136 ≤ h.1.length := by
    rcases al with e | e
    · have := cs_len sg
      have e2 : (136 : Nat) ≤ h.1.length := by
        obtain ⟨⟨ext, e1⟩, -⟩ := hl
        rw [e1, List.length_append, SH0_len]
        omega
      exact e2
    · exact e.1
  have n0 : g.2.2.2 0 11 ≠ some h.1.length := by
    rw [(lo 0 (by decide)).2, now]
    intro e
    have := Option.some.inj e
    omega
  have nmk : ∀ i, i < K → g.2.2.2 (77 + 12 * i) 2 ≠ some h.1.length := fun i hi e => by
    rw [(lo (77 + 12 * i) (by omega)).2, (hci i hi).1] at e
    have := Option.some.inj e
    have := (hci i hi).2
    omega
  have g14 : g.2.1 0 14 = nI K := by rw [(lo 0 (by decide)).1]; exact k1
  have g46 : g.2.1 4 6 = h.2.1 4 6 := by rw [(lo 4 (by decide)).1]
  cases hf : firstB ok 5 with
  | none =>
    rw [hf] at lp
    have lp' : f_X11_freeCase_l2 h 0 (nI 0) = some (.inr (.inr ())) := lp
    refine ⟨h.1.length, g, K, ?_, ig, sg, al, n0, K3, g14, nmk, g46⟩
    simp (disch := first | assumption | omega | decide | ((repeat first | apply lyI | apply lyJ | apply lywI | apply lywJ | apply csI | apply csJ | apply cswI | apply cswJ); assumption)) only [f_X11_freeCase, LI, ↓li_m1, nI_add, pk_mul, nn_sub, nn_m1, nn_div, nn_rem, nn_nz, nn_mod, nJ_l, lN_add, lN_mul, nn_tb1, nI_bt, nn_and, nn_or, nn_xor, nn_shr, nn_1shl, nn_31, il_p, il_n, it_p, it_n, ie_p, ie_n, ie_b, ie_b1, ie_m, ie_mm, it_m, it_m0, il_m0, bI_rZ, Option.bind_some, bd2_some, Nat.add_zero, Nat.zero_add, if_true, if_false, Bool.false_eq_true, eq_self, hI_R, hJ_R, ng_t, ng_e, lp', nw, eg]
  | some j =>
    obtain ⟨j5, oj, -⟩ := firstB_s.mp hf
    rw [hf] at lp
    have lp1 : f_X11_freeCase_l2 h 0 (nI 0) = some (ex j) := lp
    cases hr : h.2.2.2 11 j with
    | none =>
      have ej : ex j = .inl (nI j) := by
        show (match h.2.2.2 11 j with | none => (Sum.inl (nI j) : Int32 ⊕ (Nat ⊕ Unit)) | some t => .inr (.inl t)) = _
        rw [hr]
      rw [ej] at lp1
      have lg := ig.1
      have kg : kd g h.1.length = 1 := by
        have := sg.2.1 0 (by decide)
        unfold kd
        rw [Nat.add_zero] at this
        rw [this]
        decide +kernel
      have sr : sR g 24 11 (nI j) 1 h.1.length = some (hR g 11 j (some h.1.length)) := by
        unfold sR
        rw [inb_L lg (t := 24) (a := 11) (j := j) rfl (by decide) j5 (by decide), kg, nI_clamp (by omega)]
        rfl
      refine ⟨h.1.length, hR g 11 j (some h.1.length), K, ?_, inv_R11 j5 sg al ig, cs_Rg (by decide) (by decide) (by decide) sg, al, by rw [rR_ne (by omega)]; exact n0, K3, g14, fun i hi => by rw [rR_ne (by omega)]; exact nmk i hi, g46⟩
      simp (disch := first | assumption | omega | decide | ((repeat first | apply lyI | apply lyJ | apply lywI | apply lywJ | apply csI | apply csJ | apply cswI | apply cswJ); assumption)) only [f_X11_freeCase, S0, LI, ↓li_m1, nI_add, pk_mul, nn_sub, nn_m1, nn_div, nn_rem, nn_nz, nn_mod, nJ_l, lN_add, lN_mul, nn_tb1, nI_bt, nn_and, nn_or, nn_xor, nn_shr, nn_1shl, nn_31, il_p, il_n, it_p, it_n, ie_p, ie_n, ie_b, ie_b1, ie_m, ie_mm, it_m, it_m0, il_m0, bI_rZ, Option.bind_some, bd2_some, Nat.add_zero, Nat.zero_add, if_true, if_false, Bool.false_eq_true, eq_self, hI_R, hJ_R, ng_t, ng_e, lp1, nw, eg, sr]
    | some t =>
      have ej : ex j = .inr (.inl t) := by
        show (match h.2.2.2 11 j with | none => (Sum.inl (nI j) : Int32 ⊕ (Nat ⊕ Unit)) | some t => .inr (.inl t)) = _
        rw [hr]
      have oj' : (!decide (t = b.c) && !mk t) = true := by
        rw [← oj]
        show _ = (match h.2.2.2 11 j with | none => true | some t => !decide (t = b.c) && !mk t)
        rw [hr]
      rw [Bool.and_eq_true] at oj'
      have nt : ¬ t = b.c := by simpa using oj'.1
      have mt : mk t = false := by simpa using oj'.2
      rw [ej] at lp1
      obtain ⟨y1, y2⟩ := i4.2 j j5 t hr
      refine ⟨t, h, K, by simp (disch := first | assumption | omega | decide | ((repeat first | apply lyI | apply lyJ | apply lywI | apply lywJ | apply csI | apply csJ | apply cswI | apply cswJ); assumption)) only [f_X11_freeCase, LI, ↓li_m1, nI_add, pk_mul, nn_sub, nn_m1, nn_div, nn_rem, nn_nz, nn_mod, nJ_l, lN_add, lN_mul, nn_tb1, nI_bt, nn_and, nn_or, nn_xor, nn_shr, nn_1shl, nn_31, il_p, il_n, it_p, it_n, ie_p, ie_n, ie_b, ie_b1, ie_m, ie_mm, it_m, it_m0, il_m0, bI_rZ, Option.bind_some, bd2_some, Nat.add_zero, Nat.zero_add, if_true, if_false, Bool.false_eq_true, eq_self, hI_R, hJ_R, ng_t, ng_e, lp1], iv, y1, y2, ?_, K3, k1, fun i hi e => ?_, rfl⟩
      · rw [now]
        exact fun e => nt (Option.some.inj e).symm
      · rw [(hci i hi).1] at e
        have e2 := Option.some.inj e
        have := anyB_f.mp mt i hi
        rw [decide_eq_true e2] at this
        cases this
/-! ===== court ===== -/
/-- what a text of a case does not touch -/
def CTr (h : aH) : Prop := LAY h ∧ MKs h ∧ CAs h ∧ TR h ∧ FQ h ∧ FP h ∧ SA h ∧ WDS h
theorem inv_ctr {h : aH} (iv : Inv h) : CTr h := by
  obtain ⟨i1, i2, i3, i4, i5, i6, i7, i8, i9, i10, i11, i12⟩ := iv
  exact ⟨i1, i3, i4, i5, i7, i8, i9, i12⟩
theorem ctr_R {h : aH} {a k : Nat} {x : Option Nat} (hak : (a = 42 ∧ k = 6) ∨ (a = 0 ∧ k = 11) ∨ (a = 52 ∧ k = 4)) (c : CTr h) : CTr (hR h a k x) := by
  obtain ⟨i1, i3, i4, i5, i7, i8, i9, i12⟩ := c
  have rt : ∀ q ∈ RT0, ¬ (q.1 = a ∧ q.2.1 = k) := by
    have r1 : ∀ q ∈ RT0, ¬ (q.1 = 42 ∧ q.2.1 = 6) ∧ ¬ (q.1 = 0 ∧ q.2.1 = 11) ∧ ¬ (q.1 = 52 ∧ q.2.1 = 4) := by decide +kernel
    intro q hq
    obtain ⟨y1, y2, y3⟩ := r1 q hq
    rcases hak with ⟨rfl, rfl⟩ | ⟨rfl, rfl⟩ | ⟨rfl, rfl⟩
    · exact y1
    · exact y2
    · exact y3
  have kc : ∀ c', KC h (hR h a k x) c' := fun c' => kc_R (by omega) (by omega) (by omega)
  exact ⟨lay_Rg rt i1, mks_k ⟨fun j hj => rR_ne (by omega), fun _ _ _ => rfl, fun s _ _ => ⟨fun _ _ => rfl, fun _ _ => rfl, fun _ _ => rfl⟩, rfl, rfl⟩ (fun j b _ => kc b.c) i3, cas_k (h := h) rfl (fun i _ => rR_ne (by omega)) (fun c' => (kc c').2.2) i4, i5, i7, i8, i9, i12⟩
def CTI (c : Nat) : List Nat := [4, 7, 8, 9, 14, 20, 42, 43, 44, 45, 46, 47, 48, 49, 50, 51, 52, 53, 58, 59, 114, 121, 122, 124, 126, c, c + 1, c + 2, c + 3, c + 4, c + 5, c + 6, c + 7, c + 8, c + 9, c + 10, c + 11, c + 12, c + 13, c + 14, c + 15]
def CTJ (c : Nat) : List Nat := [4, 10, 49, 50, 51, 115, 116, 123, 127, 128, c + 2]
theorem al_ne {c d j : Nat} (hc : ALc c) (hd : ALc d) (h : d ≠ c) (j16 : j < 16) : (d + j < c ∨ c + 16 ≤ d + j) ∧ d + j ≠ 0 ∧ d + j ≠ 113 ∧ (d + j < 42 → 26 ≤ d + j) ∧ (42 ≤ d + j → 136 ≤ d + j) := by
  unfold ALc at hc hd
  omega
theorem cti_n {c d j : Nat} (hc : ALc c) (hd : ALc d) (h : d ≠ c) (j16 : j < 16) : d + j ∉ CTI c ∧ d + j ∉ CTJ c := by
  obtain ⟨y1, y2, y3, y4, y5⟩ := al_ne hc hd h j16
  have a : ∀ x, x ∈ CTI c → (x < 26 ∨ (42 ≤ x ∧ x < 136)) ∨ (c ≤ x ∧ x < c + 16) := fun x hx => by
    unfold CTI at hx
    simp at hx
    omega
  have b : ∀ x, x ∈ CTJ c → (x < 26 ∨ (42 ≤ x ∧ x < 136)) ∨ (c ≤ x ∧ x < c + 16) := fun x hx => by
    unfold CTJ at hx
    simp at hx
    omega
  exact ⟨fun hm => by have := a _ hm; omega, fun hm => by have := b _ hm; omega⟩
theorem kc_ct {h k : aH} {c d : Nat} {f0 f1 : List Nat} (fr : FR h k (CTI c) (CTJ c) f0 f1) (hc : ALc c) (hd : ALc d) (ne : d ≠ c) : KC h k d :=
  ⟨fun j hj => fr.I _ (cti_n hc hd ne hj).1 (al_ne hc hd ne hj).2.1 (al_ne hc hd ne hj).2.2.1, fr.J _ (cti_n hc hd ne (show 2 < 16 by decide)).2, fun s => cs_fr fr s⟩
theorem inv_ct {h k : aH} {c K : Nat} (ct : CTr h) (al : ALc c) (K3 : K ≤ 3) (k14 : h.2.1 0 14 = nI K) (nm : ∀ i, i < K → h.2.2.2 (77 + 12 * i) 2 ≠ some c) (fr : FR h k (CTI c) (CTJ c) [17] CF1) (lo : ∀ s, 1 ≤ s → s < 4 → KS h k s s) (pb : ∃ b p, PB k b p) (st : ST k) (tp : TP k) (fa : FA k) : Inv k := by
  obtain ⟨i1, i3, i4, i5, i7, i8, i9, i12⟩ := ct
  have c0 : c = 26 ∨ 136 ≤ c := by
    rcases al with e | e
    · exact Or.inl e
    · exact Or.inr e.1
  have nI' : ∀ x, x < 26 ∨ (41 < x ∧ x < 136) → x ∈ CTI c → x ∈ [4, 7, 8, 9, 14, 20, 42, 43, 44, 45, 46, 47, 48, 49, 50, 51, 52, 53, 58, 59, 114, 121, 122, 124, 126] := fun x hx hm => by
    unfold CTI at hm
    simp at hm ⊢
    omega
  have nJ' : ∀ x, x < 26 ∨ (41 < x ∧ x < 136) → x ∈ CTJ c → x ∈ [4, 10, 49, 50, 51, 115, 116, 123, 127, 128] := fun x hx hm => by
    unfold CTJ at hm
    simp at hm ⊢
    omega
  have fI : ∀ y, (y < 26 ∨ (41 < y ∧ y < 136)) → y ∉ [4, 7, 8, 9, 14, 20, 42, 43, 44, 45, 46, 47, 48, 49, 50, 51, 52, 53, 58, 59, 114, 121, 122, 124, 126] → y ≠ 0 → y ≠ 113 → k.2.1 y = h.2.1 y := fun y h1 h2 h3 h4 => fr.I y (fun hm => h2 (nI' y h1 hm)) h3 h4
  have fJ : ∀ y, (y < 26 ∨ (41 < y ∧ y < 136)) → y ∉ [4, 10, 49, 50, 51, 115, 116, 123, 127, 128] → k.2.2.1 y = h.2.2.1 y := fun y h1 h2 => fr.J y (fun hm => h2 (nJ' y h1 hm))
  refine ⟨fr.lay i1, pb, ?_, cas_fr fr i4, ?_, st, ?_, ?_, ?_, tp, fa, ?_⟩
  · obtain ⟨K', K3', k1, k2, k3⟩ := i3
    have eK : K' = K := (nI_eq (by omega) (by omega)).mp (k1.symm.trans k14)
    subst eK
    refine ⟨K', K3', (fr.2.2.2.2.1 14 (by decide)).trans k1, (fr.2.2.2.2.2 47 (by decide)).trans k2, fun i hi => ?_⟩
    obtain ⟨b, mb⟩ := k3 i hi
    exact ⟨b, mk_k (kc_ct fr al mb.2.1.2.1 (fun e => nm i hi (by rw [mb.1, e]))) (lo (i + 1) (by omega) (by omega)) (by rw [fr.2.1]) (fun y y1 y2 => fI y (by omega) (by simp; omega) (by omega) (by omega)) mb⟩
  · unfold TR
    rw [fI 1 (by decide) (by decide) (by decide) (by decide), fI 2 (by decide) (by decide) (by decide) (by decide), fI 117 (by decide) (by decide) (by decide) (by decide), fI 118 (by decide) (by decide) (by decide) (by decide), fJ 3 (by decide) (by decide), fJ 119 (by decide) (by decide)]
    exact i5
  · unfold FQ
    rw [fJ 0 (by decide) (by decide), fJ 113 (by decide) (by decide)]
    exact i7
  · unfold FP
    rw [fr.2.2.2.2.1 15 (by decide), fr.2.2.2.2.2 37 (by decide), fr.2.2.2.2.2 38 (by decide)]
    exact i8
  · unfold SA
    rw [fr.2.2.2.2.1 16 (by decide), fr.2.2.2.2.2 45 (by decide), fI 13 (by decide) (by decide) (by decide) (by decide), fI 135 (by decide) (by decide) (by decide) (by decide)]
    exact i9
  · intro x hx
    rw [fJ 6 (by decide) (by decide)]
    exact i12 x hx
theorem fr_lc {h k : aH} {c : Nat} (f : FR h k (LCc c) (LJc c) [] []) : FR h k (CTI c) (CTJ c) [17] CF1 := f.mono (by intro x hx; unfold LCc at hx; unfold CTI; simp at hx ⊢; omega) (by intro x hx; unfold LJc at hx; unfold CTJ; simp at hx ⊢; omega) (by simp) (by simp)
theorem pl_there {h : aH} {p o : Nat} {A : Nat → Nat} (hp : h.2.1 p 7 = nI 0) (h7 : h.2.1 114 (o + 7) = m1) : PLo h p o A := Or.inl ⟨hp, h7⟩
theorem c0_ml {c : Nat} (hc : ALc c) : c = 26 ∨ 136 ≤ c := by
  rcases hc with e | e
  · exact Or.inl e
  · exact Or.inr e.1
theorem cti_lo {c y : Nat} (hc : ALc c) (hy : y < 26 ∨ (41 < y ∧ y < 136)) (hn : y ∉ [4, 7, 8, 9, 14, 20, 42, 43, 44, 45, 46, 47, 48, 49, 50, 51, 52, 53, 58, 59, 114, 121, 122, 124, 126]) : y ∉ CTI c := fun hm => by
  have := c0_ml hc
  apply hn
  unfold CTI at hm
  simp at hm ⊢
  omega
set_option maxHeartbeats 4000000 in
theorem o_court1 {h : aH} (iv : Inv h) {t n : Nat} (t9 : t ≤ 900) (e6 : h.2.1 4 6 = nI t) (nt : n ≤ t) : IO h (fun h => f_X11_court h 0 (nI n)) (fun h => f_X12_court h 113 (nI n)) := by
  obtain ⟨c, h5, K, fc, iv5, hs, al, now, K3, k14, nmk, e46⟩ := x_free iv
  have ct := inv_ctr iv5
  obtain ⟨l5, ⟨b, p, i2⟩, mks, i4, i5, i6, i7, i8, i9, ⟨t', t9', q46, q11, q5, qb⟩, i11, i12⟩ := id iv5
  have et : nI t' = nI t := by rw [← q46, e46, e6]
  rw [et] at q46 q11
  obtain ⟨p1, p2, p3, p4, p5, p6, p7, p8, p9, p10, p11, p12⟩ := id i2
  have c0 := hs.1
  have bc : b.c ≠ c := fun e => now (by rw [p1, e])
  obtain ⟨T, hT⟩ : ∃ T : Nat → Nat, ∀ j, T j < 256 ∧ h5.2.1 5 j = bS (T j) := ⟨fun j => (bS_ex _ (qb j)).choose, fun j => (bS_ex _ (qb j)).choose_spec⟩
  obtain ⟨h7, m, r7, f7, lc⟩ := x_open l5 (T := T) ⟨fun j => (hT j).1, fun j => (hT j).2⟩ i12 (n := n) (by omega)
  have l7 := lc.1
  have s7 := cs_fr f7 hs
  obtain ⟨o, xc, rf⟩ := x_case lc s7
  have hl := iv.1
  have hd : f_X11_court h 0 (nI n) = bd2 (f_X2_readCase h7 42 c) fun t9 h10 => if t9 = nI 0 then (ck h10 11 0).bind fun _ => bd2 (f_X11_refuse h10 0 (9 : Int32)) fun t19 h20 => some (t19, h20) else (pR h10 11 0 11 c).bind fun h11 => (gR h11 11 0 12).bind fun t12 => (pZ h11 8 t12 7 (0 : Int32)).bind fun h13 => (gR h13 11 0 6).bind fun t14 => (ck h13 3 t14).bind fun _ => (f_X3_begin h13 t14 c).bind fun h15 => (gI h15 1 c 15).bind fun t16 => (ck h15 11 0).bind fun _ => bd2 (f_X11_give h15 0 t16) fun t17 h18 => some (t17, h18) := by
    simp (disch := first | assumption | omega | decide | ((repeat first | apply lyI | apply lyJ | apply lywI | apply lywJ | apply csI | apply csJ | apply cswI | apply cswJ); assumption)) only [f_X11_court, f_X11_below, S0, SX, SR, LI, ↓li_m1, nI_add, pk_mul, nn_sub, nn_m1, nn_div, nn_rem, nn_nz, nn_mod, nJ_l, lN_add, lN_mul, nn_tb1, nI_bt, nn_and, nn_or, nn_xor, nn_shr, nn_1shl, nn_31, il_p, il_n, it_p, it_n, ie_p, ie_n, ie_b, ie_b1, ie_m, ie_mm, it_m, it_m0, il_m0, bI_rZ, Option.bind_some, bd2_some, Nat.add_zero, Nat.zero_add, if_true, if_false, Bool.false_eq_true, eq_self, hI_R, hJ_R, ng_t, ng_e, e6, fc, r7]
  have of : ∀ f q, o = .inl (f, q) → f ≠ 0 ∧ f < 100 := fun f q e => by
    subst e
    exact ⟨xc.1, xc.2.1⟩
  have od : ∀ i A V Bv Q, o = .inr (i, A, V, Bv, Q) → DV A V Bv Q := fun i A V Bv Q e => by
    subst e
    exact xc.1
  let h6 := hR h5 42 6 (some c)
  have f76 : FR h6 (hR h7 42 6 (some c)) [4, 7, 8, 9] [4, 10] [] [] := fr_R f7
  have f76' : FR h6 (hR h7 42 6 (some c)) (CTI c) (CTJ c) [17] CF1 := f76.mono (by intro x hx; unfold CTI; simp at hx ⊢; omega) (by intro x hx; unfold CTJ; simp at hx ⊢; omega) (by simp) (by simp)
  have ct6 : CTr h6 := ctr_R (Or.inl ⟨rfl, rfl⟩) ct
  /- the reference behind a heap of the class -/
  have ref : ∀ k : aH, LAY k → (∀ j, k.2.1 120 j = h5.2.1 120 j) → k.2.1 113 11 = h5.2.1 113 11 → k.2.1 114 = h5.2.1 114 → k.2.2.1 115 = h5.2.2.1 115 → ∃ k', f_X12_court k 113 (nI n) = some (RCr o, k') ∧ RCo k k' o := fun k kl t1 t2 t3 t4 => by
    refine r_court kl (T := T) (fun j => (hT j).1) (fun j => by rw [t1, ← q5]; exact (hT j).2) (n := n) (t := t) (t2.trans q11) nt t9 (A0 := b.A) (P0 := b.P) (Q0 := b.Q) ?_ p9.1.1 of od rf
    have := cm_0.mp p7.1
    exact cm_lo (k := h5) (fun x _ => by rw [t3]) (fun x _ => by rw [t4]) this
  rcases o with ⟨f, q⟩ | ⟨i, A, V, Bv, Q⟩
  · obtain ⟨f0, f9, h10, e10, f10, fl⟩ := xc
    have l10 := fl.1
    let k := hI h10 0 17 (nI 9)
    have fk : FR h6 k (CTI c) (CTJ c) [17] CF1 := (f76'.tr (fr_lc f10)).tr (fr_0 (by decide))
    have lk : LAY k := l10
    have kI : ∀ y, (y < 26 ∨ (41 < y ∧ y < 136)) → y ≠ 0 → y ≠ 113 → y ∉ [4, 7, 8, 9] → y ∉ [42, 43, 44, 45, 46, 47, 48, 49, 50, 51] → k.2.1 y = h5.2.1 y := fun y h1 h2 h3 h4 h5' => by
      have a1 : k.2.1 y = h10.2.1 y := (fr_0 (h := h10) (k := 17) (x := nI 9) (cI := []) (cJ := []) (f0 := [17]) (f1 := []) (by decide)).I y (by simp) h2 h3
      have a2 : h10.2.1 y = (hR h7 42 6 (some c)).2.1 y := f10.I y (fun hm => by
        unfold LCc at hm
        simp at hm h4 h5'
        omega) h2 h3
      have a3 : h7.2.1 y = h5.2.1 y := f7.I y h4 h2 h3
      rw [a1, a2]
      exact a3
    have kJ : ∀ y, (y < 26 ∨ (41 < y ∧ y < 136)) → y ∉ [4, 10] → y ∉ [49, 50, 51] → k.2.2.1 y = h5.2.2.1 y := fun y h1 h4 h5' => by
      have a2 : h10.2.2.1 y = (hR h7 42 6 (some c)).2.2.1 y := f10.J y (fun hm => by
        unfold LJc at hm
        simp at hm h4 h5'
        omega)
      have a3 : h7.2.2.1 y = h5.2.2.1 y := f7.J y h4
      show h10.2.2.1 y = _
      rw [a2]
      exact a3
    have k113 : ∀ j, k.2.1 113 j = h5.2.1 113 j := fun j => by
      show (hI h10 0 17 (nI 9)).2.1 113 j = _
      rw [rI_ne (by decide), f10.2.2.2.2.2 j (by simp)]
      exact f7.2.2.2.2.2 j (by simp)
    obtain ⟨k', ek, fk', klo, r3, r17, r18, r11⟩ := ref k lk (fun j => by rw [kI 120 (by decide) (by decide) (by decide) (by decide) (by decide)]) (k113 11) (kI 114 (by decide) (by decide) (by decide) (by decide) (by decide)) (kJ 115 (by decide) (by decide) (by decide))
    have ft : FR h6 k' (CTI c) (CTJ c) [17] CF1 := fk.tr (fk'.mono (by intro x hx; unfold CTI; simp at hx ⊢; omega) (by intro x hx; unfold CTJ; simp at hx ⊢; omega) (by simp) (by simp))
    have ksl : ∀ s, s < 4 → KS h6 k' s s := fun s s4 => by
      refine ⟨fun x hx => ?_, fun x hx => ?_, fun x hx => ?_⟩
      · rw [klo.1 _ (by omega) (by omega), kI 114 (by decide) (by decide) (by decide) (by decide) (by decide)]
        rfl
      · rw [klo.2.1 _ (by omega) (by omega), kJ 115 (by decide) (by decide) (by decide)]
        rfl
      · rw [klo.2.2 _ (by omega) (by omega), kJ 116 (by decide) (by decide) (by decide)]
        rfl
    have kI2 : ∀ y, (y < 26 ∨ (41 < y ∧ y < 136)) → y ≠ 0 → y ≠ 113 → y ∉ [4, 7, 8, 9] → y ∉ [42, 43, 44, 45, 46, 47, 48, 49, 50, 51] → y ∉ [114, 121, 122, 124] → k'.2.1 y = h5.2.1 y := fun y h1 h2 h3 h4 h5' h6' => (fk'.I y h6' h2 h3).trans (kI y h1 h2 h3 h4 h5')
    have z4 : k'.2.1 4 = h10.2.1 4 := (fk'.I 4 (by decide) (by decide) (by decide)).trans ((fr_0 (h := h10) (k := 17) (x := nI 9) (cI := []) (cJ := []) (f0 := [17]) (f1 := []) (by decide)).I 4 (by simp) (by decide) (by decide))
    have kcb : KC h5 k' b.c := by
      have := kc_ct ft al p3.2.1 bc
      exact kc_tr (h1 := h6) (kc_R (by decide) (by decide) (by decide)) this
    have rr : ∀ y z, ¬ (y = 42 ∧ z = 6) → k'.2.2.2 y z = h5.2.2.2 y z := fun y z hyz => by rw [ft.2.1, rR_ne hyz]
    have ks0 := ksl 0 (by decide)
    refine ⟨m1, k, k', ?_, ek, inv_ct ct6 al K3 k14 (fun i hi => by rw [show h6.2.2.2 (77 + 12 * i) 2 = h5.2.2.2 (77 + 12 * i) 2 from rR_ne (by omega)]; exact nmk i hi) ft (fun s s1 s4 => ksl s s4) ⟨b, p, pb_k kcb ks0 (fun y y1 y2 => kI2 y (by omega) (by omega) (by omega) (by simp; omega) (by simp; omega) (by simp; omega)) (kI2 126 (by decide) (by decide) (by decide) (by decide) (by decide) (by decide)) (rr 0 11 (by decide)) (rr 52 4 (by decide)) ?_ p10 ((rr 0 12 (by decide)).trans p11) ((rr 0 13 (by decide)).trans p12) i2⟩ ?_ ⟨0, by decide, ?_, r11, fun j => ?_, fun j => ?_⟩ ⟨?_, ?_⟩⟩
    · show f_X11_court h 0 (nI n) = some (m1, hI h10 0 17 (nI 9))
      rw [hd, e10, bd2_some, if_pos rfl]
      simp (disch := first | assumption | omega | decide | ((repeat first | apply lyI | apply lyJ | apply lywI | apply lywJ | apply csI | apply csJ | apply cswI | apply cswJ); assumption)) only [f_X11_refuse, S0, LI, ↓li_m1, nI_add, pk_mul, nn_sub, nn_m1, nn_div, nn_rem, nn_nz, nn_mod, nJ_l, lN_add, lN_mul, nn_tb1, nI_bt, nn_and, nn_or, nn_xor, nn_shr, nn_1shl, nn_31, il_p, il_n, it_p, it_n, ie_p, ie_n, ie_b, ie_b1, ie_m, ie_mm, it_m, it_m0, il_m0, bI_rZ, Option.bind_some, bd2_some, Nat.add_zero, Nat.zero_add, if_true, if_false, Bool.false_eq_true, eq_self, hI_R, hJ_R, ng_t, ng_e]
    · refine plo_k (kp_same (fun j hj => kI2 _ (by omega) (by omega) (by omega) (by simp; omega) (by simp; omega) (by simp; omega))) ?_ (fun x _ hx => ?_) p8
      · have := ks0.1 7 (by decide)
        rwa [Nat.mul_zero] at this
      · have := ks0.1 x hx
        rwa [Nat.mul_zero] at this
    · show k'.2.1 0 17 = k'.2.1 113 3
      rw [r3, fk'.2.2.2.2.1 17 (by decide)]
      exact rI_eq
    · rw [z4]
      exact fl.2.2.2
    · rw [kI2 5 (by decide) (by decide) (by decide) (by decide) (by decide) (by decide), kI2 120 (by decide) (by decide) (by decide) (by decide) (by decide) (by decide)]
      exact q5 j
    · rw [kI2 5 (by decide) (by decide) (by decide) (by decide) (by decide) (by decide)]
      exact qb j
    · rw [r17, z4]
      exact fl.2.1
    · rw [r18, z4]
      exact fl.2.2.1
  · obtain ⟨dv, h10, e10, f10, l10, s10, cc, nc10, y12, y13, y46⟩ := xc
    have wf := dv.1
    let g1 := hR h10 0 11 (some c)
    have lg1 : LAY g1 := lay_Rg (by decide +kernel) l10
    have r10 : h10.2.2.2 = h6.2.2.2 := f10.2.1.trans f76.2.1
    have g12 : g1.2.2.2 0 12 = some p := by
      show (hR h10 0 11 (some c)).2.2.2 0 12 = _
      rw [rR_ne (by decide), r10]
      show (hR h5 42 6 (some c)).2.2.2 0 12 = _
      rw [rR_ne (by decide)]
      exact p11
    let g2 := hI g1 p 7 (nI 0)
    have lg2 : LAY g2 := lg1
    let g3 := hR g2 52 4 (some c)
    have lg3 : LAY g3 := lay_Rg (by decide +kernel) lg2
    let g4 := hI (hI g3 53 4 (nI 0)) 53 5 (nI 0)
    have lg4 : LAY g4 := lg3
    let h11 := hR (hR h10 0 11 (some c)) 52 4 (some c)
    have f4 : FR h11 g4 [14, 20, 53] [] [] [] := by
      have a1 : FR h11 (hI h11 p 7 (nI 0)) [14, 20, 53] [] [] [] := FR.hI (by rcases p10 with rfl | rfl <;> simp) (by omega) (by omega)
      exact (a1.tr (FR.hI (by simp) (by decide) (by decide))).tr (FR.hI (by simp) (by decide) (by decide))
    have s11 : CS h11 c := cs_Rg (by decide) (by decide) (by decide) (cs_Rg (by decide) (by decide) (by decide) s10)
    have s4 := cs_fr f4 s11
    have cc11 : CC h11 c A (cnP A Bv) Q (anS A (cnP A Bv) Q) := cc
    have cc4 := cc_fr f4 (by decide) s11 cc11
    have hf4 : g4.2.2.2 52 4 = some c := by
      show (hR g2 52 4 (some c)).2.2.2 52 4 = some c
      exact rR_eq
    have mn4 : MN g4 53 0 0 M0 := ⟨rfl, rfl, fun k hk => absurd hk (by omega)⟩
    obtain ⟨g5, e5, f5, hr5⟩ := k_rebuild52 s4 cc4 wf lg4 hf4 mn4 (gm_0 (A := A)).1
    have lg5 := f5.lay lg4
    have s5 := cs_fr f5 s4
    have bg : f_X3_begin g2 52 c = some g5 := by
      have t1 : pR g2 3 52 4 c = some g3 := by
        unfold pR
        rw [lay_kd lg2 52 (by decide), if_pos (by decide)]
      have t2 : gR g3 3 52 0 = some 53 := gR_L lg3 (by decide) (by decide) (by decide +kernel)
      have t3 : pI g3 6 53 4 (nI 0) = some (hI g3 53 4 (nI 0)) := pI_L lg3 4 _ (by decide) (by decide)
      have l2' : LAY (hI g3 53 4 (nI 0)) := lg3
      have t4 : gR (hI g3 53 4 (nI 0)) 3 52 0 = some 53 := gR_L l2' (by decide) (by decide) (by decide +kernel)
      have t5 : pI (hI g3 53 4 (nI 0)) 6 53 5 (nI 0) = some g4 := pI_L l2' 5 _ (by decide) (by decide)
      have t6 : ck g4 3 52 = some () := ck_L lg4 (by decide) (by decide)
      unfold f_X3_begin
      rw [show (0 : Int32) = nI 0 from rfl, t1, Option.bind_some, t2, Option.bind_some, t3, Option.bind_some, t4, Option.bind_some, t5, Option.bind_some, t6, Option.bind_some, e5, Option.bind_some]
    let k := hI g5 0 17 (nI 0)
    have lk : LAY k := lg5
    have f11 : FR h11 k [14, 20, 52, 53, 58, 59] [] [17] [] := ((f4.mono (by decide) (by decide) (by decide) (by decide)).tr (f5.mono (by decide) (by decide) (by decide) (by decide))).tr (fr_0 (by decide))
    have g15 : g5.2.1 c 15 = nI (cntB (cnP A Bv) (A 2)) := by
      have : g5.2.1 c = h10.2.1 c := (f5.I c (by simp; omega) (by omega) (by omega)).trans (f4.I c (by simp; omega) (by omega) (by omega))
      rw [this]
      exact cc.1.2.2.2.1
    let h8 := hR (hR h6 0 11 (some c)) 52 4 (some c)
    have f8 : FR h8 h11 (CTI c) (CTJ c) [17] CF1 := fr_R (fr_R (f76'.tr (fr_lc f10)))
    have fk : FR h8 k (CTI c) (CTJ c) [17] CF1 := f8.tr (f11.mono (by intro x hx; unfold CTI; simp at hx ⊢; omega) (by simp) (by simp) (by simp))
    have ct8 : CTr h8 := ctr_R (Or.inr (Or.inr ⟨rfl, rfl⟩)) (ctr_R (Or.inr (Or.inl ⟨rfl, rfl⟩)) ct6)
    have kI : ∀ y, (y < 26 ∨ (41 < y ∧ y < 136)) → y ≠ 0 → y ≠ 113 → y ∉ [4, 7, 8, 9] → y ∉ [42, 43, 44, 45, 46, 47, 48, 49, 50, 51] → y ∉ [14, 20, 52, 53, 58, 59] → k.2.1 y = h5.2.1 y := fun y h1 h2 h3 h4 h5' h6' => by
      have a1 : k.2.1 y = h10.2.1 y := f11.I y h6' h2 h3
      have a2 : h10.2.1 y = (hR h7 42 6 (some c)).2.1 y := f10.I y (fun hm => by
        unfold LCc at hm
        simp at hm h4 h5'
        omega) h2 h3
      have a3 : h7.2.1 y = h5.2.1 y := f7.I y h4 h2 h3
      rw [a1, a2]
      exact a3
    have kJ : ∀ y, (y < 26 ∨ (41 < y ∧ y < 136)) → y ∉ [4, 10] → y ∉ [49, 50, 51] → k.2.2.1 y = h5.2.2.1 y := fun y h1 h4 h5' => by
      have a1 : k.2.2.1 y = h10.2.2.1 y := f11.J y (by simp)
      have a2 : h10.2.2.1 y = (hR h7 42 6 (some c)).2.2.1 y := f10.J y (fun hm => by
        unfold LJc at hm
        simp at hm h4 h5'
        omega)
      have a3 : h7.2.2.1 y = h5.2.2.1 y := f7.J y h4
      rw [a1, a2]
      exact a3
    have k113 : ∀ j, k.2.1 113 j = h5.2.1 113 j := fun j => by
      rw [f11.2.2.2.2.2 j (by simp)]
      show h10.2.1 113 j = _
      rw [f10.2.2.2.2.2 j (by simp)]
      exact f7.2.2.2.2.2 j (by simp)
    obtain ⟨k', ek, fk', klo, cm', sy', nr', ⟨a5, a6, a7⟩, r3, r17, r18, r11⟩ := ref k lk (fun j => by rw [kI 120 (by decide) (by decide) (by decide) (by decide) (by decide) (by decide)]) (k113 11) (kI 114 (by decide) (by decide) (by decide) (by decide) (by decide) (by decide)) (kJ 115 (by decide) (by decide) (by decide))
    have ft : FR h8 k' (CTI c) (CTJ c) [17] CF1 := fk.tr (fk'.mono (by intro x hx; unfold CTI; simp at hx ⊢; omega) (by intro x hx; unfold CTJ; simp at hx ⊢; omega) (by simp) (by simp))
    have f11' : FR h11 k' [14, 20, 52, 53, 58, 59, 114, 121, 122, 124, 126] [115, 116, 123, 127, 128] [17] CF1 := (f11.mono (by decide) (by decide) (by decide) (by decide)).tr (fk'.mono (by decide) (by decide) (by decide) (by decide))
    have ksl : ∀ s, 1 ≤ s → s < 4 → KS h8 k' s s := fun s s1 s4 => by
      refine ⟨fun x hx => ?_, fun x hx => ?_, fun x hx => ?_⟩
      · rw [klo.1 _ (by omega) (by omega), kI 114 (by decide) (by decide) (by decide) (by decide) (by decide) (by decide)]
        rfl
      · rw [klo.2.1 _ (by omega) (by omega), kJ 115 (by decide) (by decide) (by decide)]
        rfl
      · rw [klo.2.2 _ (by omega) (by omega), kJ 116 (by decide) (by decide) (by decide)]
        rfl
    have kg : ∀ y, y ∉ [114, 121, 122, 124, 126] → y ≠ 0 → y ≠ 113 → k'.2.1 y = g5.2.1 y := fun y h1 h2 h3 => (fk'.I y h1 h2 h3).trans ((fr_0 (h := g5) (k := 17) (x := nI 0) (cI := []) (cJ := []) (f0 := [17]) (f1 := []) (by decide)).I y (by simp) h2 h3)
    have kcc : KC h11 k' c := kc_fr f11' (by decide) (by decide) s11.1
    have bcl : BCl h11 (c, A, cnP A Bv, Q, 0, 0, M0, cA A, V) := ⟨s11, al, cc11, nc10⟩
    have z4 : k'.2.1 4 = h10.2.1 4 := f11'.I 4 (by decide) (by decide) (by decide)
    have rr : ∀ y z, k'.2.2.2 y z = h8.2.2.2 y z := fun y z => by rw [ft.2.1]
    have k5' : ∀ y, (y < 26 ∨ (41 < y ∧ y < 136)) → y ≠ 0 → y ≠ 113 → y ∉ [4, 7, 8, 9] → y ∉ [42, 43, 44, 45, 46, 47, 48, 49, 50, 51] → y ∉ [14, 20, 52, 53, 58, 59] → y ∉ [114, 121, 122, 124, 126] → k'.2.1 y = h5.2.1 y := fun y h1 h2 h3 h4 h5' h6' h7' => (fk'.I y h7' h2 h3).trans (kI y h1 h2 h3 h4 h5' h6')
    refine ⟨nI (cntB (cnP A Bv) (A 2)), k, k', ?_, ek, inv_ct ct8 al K3 k14 (fun i hi => ?_) ft ksl ⟨(c, A, cnP A Bv, Q, 0, 0, M0, cA A, V), p, ?_, ?_, bcl_k kcc bcl, ?_, ?_, sy', ⟨cm_0.mpr cm', ⟨a5, a6, fun r i hr => absurd hr (by show ¬ r < 0; omega)⟩, nr'⟩, Or.inl ⟨?_, a7⟩, ⟨⟨wf, wp_dv dv, dv.2.1, rfl, rfl, rfl, rfl⟩, (gm_0 (A := A)).1, (gm_0 (A := A)).2.1, Nat.zero_le 99⟩, p10, ?_, ?_⟩ ?_ ⟨0, by decide, ?_, r11, fun j => ?_, fun j => ?_⟩ ⟨?_, ?_⟩⟩
    · show f_X11_court h 0 (nI n) = some (nI (cntB (cnP A Bv) (A 2)), hI g5 0 17 (nI 0))
      have t1 : pR h10 11 0 11 c = some g1 := by
        unfold pR
        rw [lay_kd l10 0 (by decide), if_pos (by decide)]
      have t2 : gR g1 11 0 12 = some p := by rw [gR_D lg1 12 (by decide) (by decide)]; exact g12
      have t3 : pZ g1 8 p 7 (0 : Int32) = some g2 := pZ_L lg1 7 _ (by rcases p10 with rfl | rfl <;> decide) (by decide) (Or.inl rfl)
      have t4 : gR g2 11 0 6 = some 52 := gR_L lg2 (by decide) (by decide) (by decide +kernel)
      have t5 : ck g2 3 52 = some () := ck_L lg2 (by decide) (by decide)
      have t6 : gI g5 1 c 15 = some (nI (cntB (cnP A Bv) (A 2))) := by rw [← g15]; exact (SC g5 c s5).2.2.2.2.2.2.2.2.2.2.2.2.2.2.2.2.2.2.2.1
      rw [hd, e10, bd2_some, if_neg (by decide), t1, Option.bind_some, t2, Option.bind_some, t3, Option.bind_some, t4, Option.bind_some, t5, Option.bind_some, bg, Option.bind_some, t6, Option.bind_some]
      simp (disch := first | assumption | omega | decide | ((repeat first | apply lyI | apply lyJ | apply lywI | apply lywJ | apply csI | apply csJ | apply cswI | apply cswJ); assumption)) only [f_X11_give, S0, LI, ↓li_m1, nI_add, pk_mul, nn_sub, nn_m1, nn_div, nn_rem, nn_nz, nn_mod, nJ_l, lN_add, lN_mul, nn_tb1, nI_bt, nn_and, nn_or, nn_xor, nn_shr, nn_1shl, nn_31, il_p, il_n, it_p, it_n, ie_p, ie_n, ie_b, ie_b1, ie_m, ie_mm, it_m, it_m0, il_m0, bI_rZ, Option.bind_some, bd2_some, Nat.add_zero, Nat.zero_add, if_true, if_false, Bool.false_eq_true, eq_self, hI_R, hJ_R, ng_t, ng_e]
    · show (hR (hR (hR h5 42 6 (some c)) 0 11 (some c)) 52 4 (some c)).2.2.2 (77 + 12 * i) 2 ≠ _
      rw [rR_ne (by omega), rR_ne (by omega), rR_ne (by omega)]
      exact nmk i hi
    · rw [rr]
      show (hR (hR h6 0 11 (some c)) 52 4 (some c)).2.2.2 0 11 = _
      rw [rR_ne (by decide), rR_eq]
    · rw [rr]
      exact rR_eq
    · have e53 := kg 53 (by decide) (by decide) (by decide)
      rw [f5.I 53 (by decide) (by decide) (by decide)] at e53
      refine ⟨by rw [e53]; exact mn4.1, by rw [e53]; exact mn4.2.1, fun r hr => absurd hr (by show ¬ r < 0; omega)⟩
    · exact hr_k (kg 52 (by decide) (by decide) (by decide)) (kg 58 (by decide) (by decide) (by decide)) (kg 59 (by decide) (by decide) (by decide)) hr5
    · have ep : k'.2.1 p = g4.2.1 p := (kg p (by rcases p10 with rfl | rfl <;> decide) (by omega) (by omega)).trans (f5.I p (by rcases p10 with rfl | rfl <;> decide) (by omega) (by omega))
      rw [ep]
      show (hI (hI g3 53 4 (nI 0)) 53 5 (nI 0)).2.1 p 7 = _
      rw [rI_ne (by omega), rI_ne (by omega)]
      exact rI_eq
    · rw [rr]
      show (hR (hR (hR h5 42 6 (some c)) 0 11 (some c)) 52 4 (some c)).2.2.2 0 12 = _
      rw [rR_ne (by decide), rR_ne (by decide), rR_ne (by decide)]
      exact p11
    · rw [rr]
      show (hR (hR (hR h5 42 6 (some c)) 0 11 (some c)) 52 4 (some c)).2.2.2 0 13 = _
      rw [rR_ne (by decide), rR_ne (by decide), rR_ne (by decide)]
      exact p12
    · show k'.2.1 0 17 = k'.2.1 113 3
      rw [r3, fk'.2.2.2.2.1 17 (by decide)]
      exact rI_eq
    · rw [z4]
      exact y46
    · rw [k5' 5 (by decide) (by decide) (by decide) (by decide) (by decide) (by decide) (by decide), k5' 120 (by decide) (by decide) (by decide) (by decide) (by decide) (by decide) (by decide)]
      exact q5 j
    · rw [k5' 5 (by decide) (by decide) (by decide) (by decide) (by decide) (by decide) (by decide)]
      exact qb j
    · rw [r17, z4]
      exact y12
    · rw [r18, z4]
      exact y13
theorem o_court {h : aH} (iv : Inv h) (x : Int32) : IO h (fun h => f_X11_court h 0 x) (fun h => f_X12_court h 113 x) := by
  obtain ⟨t, t9, e6, e11, e5, eb⟩ := iv.2.2.2.2.2.2.2.2.2.1
  have hl := iv.1
  have l0 : LAY (hI h 0 17 (nI 1)) := hl
  rcases neg_or x with hx | ⟨v, v1, rfl⟩
  · refine io_no iv (w := nI 1) ?_ ?_
    · show f_X11_court h 0 x = _
      simp (disch := first | assumption | omega | decide | ((repeat first | apply lyI | apply lyJ | apply lywI | apply lywJ | apply csI | apply csJ | apply cswI | apply cswJ); assumption)) only [f_X11_court, f_X11_below, f_X11_refuse, S0, SX, LI, ↓li_m1, nI_add, pk_mul, nn_sub, nn_m1, nn_div, nn_rem, nn_nz, nn_mod, nJ_l, lN_add, lN_mul, nn_tb1, nI_bt, nn_and, nn_or, nn_xor, nn_shr, nn_1shl, nn_31, il_p, il_n, it_p, it_n, ie_p, ie_n, ie_b, ie_b1, ie_m, ie_mm, it_m, it_m0, il_m0, bI_rZ, Option.bind_some, bd2_some, Nat.add_zero, Nat.zero_add, if_true, if_false, Bool.false_eq_true, eq_self, hI_R, hJ_R, ng_t, ng_e, e6]
    · show f_X12_court (hI h 0 17 (nI 1)) 113 x = _
      simp (disch := first | assumption | omega | decide | ((repeat first | apply lyI | apply lyJ | apply lywI | apply lywJ | apply csI | apply csJ | apply cswI | apply cswJ); assumption)) only [f_X12_court, f_X12_begins, f_X12_refuse, SM, LI, ↓li_m1, nI_add, pk_mul, nn_sub, nn_m1, nn_div, nn_rem, nn_nz, nn_mod, nJ_l, lN_add, lN_mul, nn_tb1, nI_bt, nn_and, nn_or, nn_xor, nn_shr, nn_1shl, nn_31, il_p, il_n, it_p, it_n, ie_p, ie_n, ie_b, ie_b1, ie_m, ie_mm, it_m, it_m0, il_m0, bI_rZ, Option.bind_some, bd2_some, Nat.add_zero, Nat.zero_add, if_true, if_false, Bool.false_eq_true, eq_self, hI_R, hJ_R, ng_t, ng_e]
  rcases Nat.lt_or_ge t v with u | u
  · refine io_no iv (w := nI 1) ?_ ?_
    · show f_X11_court h 0 (nI v) = _
      simp (disch := first | assumption | omega | decide | ((repeat first | apply lyI | apply lyJ | apply lywI | apply lywJ | apply csI | apply csJ | apply cswI | apply cswJ); assumption)) only [f_X11_court, f_X11_below, f_X11_refuse, S0, SX, LI, ↓li_m1, nI_add, pk_mul, nn_sub, nn_m1, nn_div, nn_rem, nn_nz, nn_mod, nJ_l, lN_add, lN_mul, nn_tb1, nI_bt, nn_and, nn_or, nn_xor, nn_shr, nn_1shl, nn_31, il_p, il_n, it_p, it_n, ie_p, ie_n, ie_b, ie_b1, ie_m, ie_mm, it_m, it_m0, il_m0, bI_rZ, Option.bind_some, bd2_some, Nat.add_zero, Nat.zero_add, if_true, if_false, Bool.false_eq_true, eq_self, hI_R, hJ_R, ng_t, ng_e, e6]
    · show f_X12_court (hI h 0 17 (nI 1)) 113 (nI v) = _
      have e11' : (hI h 0 17 (nI 1)).2.1 113 11 = nI t := e11
      simp (disch := first | assumption | omega | decide | ((repeat first | apply lyI | apply lyJ | apply lywI | apply lywJ | apply csI | apply csJ | apply cswI | apply cswJ); assumption)) only [f_X12_court, f_X12_begins, f_X12_refuse, SM, LI, ↓li_m1, nI_add, pk_mul, nn_sub, nn_m1, nn_div, nn_rem, nn_nz, nn_mod, nJ_l, lN_add, lN_mul, nn_tb1, nI_bt, nn_and, nn_or, nn_xor, nn_shr, nn_1shl, nn_31, il_p, il_n, it_p, it_n, ie_p, ie_n, ie_b, ie_b1, ie_m, ie_mm, it_m, it_m0, il_m0, bI_rZ, Option.bind_some, bd2_some, Nat.add_zero, Nat.zero_add, if_true, if_false, Bool.false_eq_true, eq_self, hI_R, hJ_R, ng_t, ng_e, e11']
  exact o_court1 iv t9 e6 u
