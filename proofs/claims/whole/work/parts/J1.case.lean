/-! ===== cases: the class reads a case ===== -/
def A00 : Nat → Nat := fun y => if y = 2 then 1 else 0
def V00 : Nat → List Nat := fun _ => []
def B00 : Nat → Nat := fun _ => 0
def Q00 : Nat → Nat → Bool := fun _ _ => false
theorem dv_00 : DV A00 V00 B00 Q00 := by
  refine ⟨⟨⟨by decide, by decide, by decide, by decide, fun f hf => absurd hf (by decide +revert)⟩, by decide, by decide, fun v hv => absurd hv (by decide +revert), fun q hq => absurd hq (by decide +revert), fun v hv => absurd hv (by decide +revert)⟩, ⟨fun s hs => ?_, fun s k hs hk => ?_, fun s k s' k' hs hs' hk => ?_⟩, by decide, fun v _ => by decide +revert, fun v k _ _ _ => ?_, fun q w hq => by cases hq, ⟨by decide, by decide⟩, fun f x hf => absurd hf (by decide +revert), ⟨⟨fun _ => by decide, fun h => absurd h (by decide)⟩, fun f hf => absurd hf (by show ¬ f + 1 < 0; omega), fun f hf => absurd hf (by show ¬ f + 1 = 0; omega)⟩⟩
  · have : cA A00 s = 0 := by rcases lt4 hs with rfl | rfl | rfl | rfl <;> rfl
    rw [this]
    exact Nat.zero_le _
  · have : cA A00 s = 0 := by rcases lt4 hs with rfl | rfl | rfl | rfl <;> rfl
    omega
  · have : cA A00 s = 0 := by rcases lt4 hs with rfl | rfl | rfl | rfl <;> rfl
    omega
  · unfold A00
    rw [if_neg (by omega)]
theorem x_clear {h : aH} {c : Nat} (hs : CS h c) : ∃ h', f_X1_clear h c = some h' ∧ FR h h' [c, c + 1, c + 9, c + 10, c + 12, c + 13, c + 14] [] [] [] ∧ h'.2.1 (c + 1) 3 = nI 0 ∧ (h'.2.1 c 12 = nI 0 ∧ h'.2.1 c 13 = nI 0 ∧ h'.2.1 c 14 = nI 1 ∧ h'.2.1 c 16 = nI 0 ∧ h'.2.1 c 17 = nI 0 ∧ h'.2.1 c 18 = nI 65535) ∧ (∀ x, x < 16 → h'.2.1 (c + 12) x = nI 0) ∧ (∀ x, x < 4 → h'.2.1 (c + 13) x = nI 0) ∧ ∀ x, x < 4 → h'.2.1 (c + 14) x = nI 0 := by
  have c0 := hs.1
  have kd' : ∀ (g : aH) j, CS g c → j < 16 → kd g (c + j) = (SH0.getD (26 + j) (99, 0)).1 ∧ ln g (c + j) = (SH0.getD (26 + j) (99, 0)).2 := fun g j hg hj => by
    unfold kd ln
    rw [hg.2.1 j hj]
    exact ⟨rfl, rfl⟩
  have F12 : ∀ g : aH, CS g c → f_J7_fill_53178 g (c + 12) (nI 0) = some (wI g (c + 12) (setF (g.2.1 (c + 12)) 0 16 (fun _ => nI 0))) := fun g hg => fill_I (kd' g 12 hg (by decide)).1 (kd' g 12 hg (by decide)).2 (by decide)
  have F13 : ∀ g : aH, CS g c → f_J7_fill_53178 g (c + 13) (nI 0) = some (wI g (c + 13) (setF (g.2.1 (c + 13)) 0 4 (fun _ => nI 0))) := fun g hg => fill_I (kd' g 13 hg (by decide)).1 (kd' g 13 hg (by decide)).2 (by decide)
  have F14 : ∀ g : aH, CS g c → f_J7_fill_53178 g (c + 14) (nI 0) = some (wI g (c + 14) (setF (g.2.1 (c + 14)) 0 4 (fun _ => nI 0))) := fun g hg => fill_I (kd' g 14 hg (by decide)).1 (kd' g 14 hg (by decide)).2 (by decide)
  obtain ⟨g1, hg1⟩ : ∃ g1, g1 = (hI (hI (hI (hI (hI (hI (hI (hI (hI (hI h (c + 1) 3 (nI 0)) c 12 (nI 0)) c 13 (nI 0)) c 16 (nI 0)) c 17 (nI 0)) c 14 (nI 1)) c 15 (nI 1)) (c + 9) 0 (nI 1)) (c + 10) 0 (nI 0)) c 18 (nI 65535)) := ⟨_, rfl⟩
  have s1 : CS g1 c := by rw [hg1]; exact hs
  have p1 : f_X1_clear h c = (f_J7_fill_53178 g1 (c + 12) (nI 0)).bind fun h15 => (gR h15 1 c 9).bind fun t16 => (f_J7_fill_53178 h15 t16 (0 : Int32)).bind fun h17 => (gR h17 1 c 10).bind fun t18 => (f_J7_fill_53178 h17 t18 (0 : Int32)).bind fun h19 => some h19 := by
    rw [hg1]
    simp (disch := first | assumption | omega | decide | ((repeat first | apply lyI | apply lyJ | apply lywI | apply lywJ | apply csI | apply csJ | apply cswI | apply cswJ); assumption)) only [f_X1_clear, SC, SNM, LI, ↓li_m1, nI_add, pk_mul, nn_sub, nn_m1, nn_div, nn_rem, nn_nz, nn_mod, nJ_l, lN_add, lN_mul, nn_tb1, nI_bt, nn_and, nn_or, nn_xor, nn_shr, nn_1shl, nn_31, il_p, il_n, it_p, it_n, ie_p, ie_n, ie_b, ie_b1, ie_m, ie_mm, it_m, it_m0, il_m0, bI_rZ, Option.bind_some, bd2_some, Nat.add_zero, Nat.zero_add, if_true, if_false, Bool.false_eq_true, eq_self, hI_R, hJ_R, ng_t, ng_e]
  obtain ⟨g2, hg2⟩ : ∃ g2, g2 = wI g1 (c + 12) (setF (g1.2.1 (c + 12)) 0 16 (fun _ => nI 0)) := ⟨_, rfl⟩
  obtain ⟨g3, hg3⟩ : ∃ g3, g3 = wI g2 (c + 13) (setF (g2.2.1 (c + 13)) 0 4 (fun _ => nI 0)) := ⟨_, rfl⟩
  obtain ⟨g4, hg4⟩ : ∃ g4, g4 = wI g3 (c + 14) (setF (g3.2.1 (c + 14)) 0 4 (fun _ => nI 0)) := ⟨_, rfl⟩
  have s2 : CS g2 c := by rw [hg2]; exact s1
  have s3 : CS g3 c := by rw [hg3]; exact s2
  have q12 := F12 g1 s1
  have q13 := F13 g2 s2
  have q14 := F14 g3 s3
  rw [← hg2] at q12
  rw [← hg3] at q13
  rw [← hg4] at q14
  have f1 : FR h g1 [c, c + 1, c + 9, c + 10] [] [] [] := by
    rw [hg1]
    exact (((((((((FR.hI (by simp) (by omega) (by omega)).tr (FR.hI (by simp) (by omega) (by omega))).tr (FR.hI (by simp) (by omega) (by omega))).tr (FR.hI (by simp) (by omega) (by omega))).tr (FR.hI (by simp) (by omega) (by omega))).tr (FR.hI (by simp) (by omega) (by omega))).tr (FR.hI (by simp) (by omega) (by omega))).tr (FR.hI (by simp) (by omega) (by omega))).tr (FR.hI (by simp) (by omega) (by omega))).tr (FR.hI (by simp) (by omega) (by omega))
  have f2 : FR g1 g4 [c + 12, c + 13, c + 14] [] [] [] := by
    rw [hg4]
    refine FR.tr (h1 := g3) ?_ (FR.wI (by simp) (by omega) (by omega))
    rw [hg3]
    refine FR.tr (h1 := g2) ?_ (FR.wI (by simp) (by omega) (by omega))
    rw [hg2]
    exact FR.wI (by simp) (by omega) (by omega)
  have e12 : ∀ x, g4.2.1 (c + 12) x = if x < 16 then nI 0 else h.2.1 (c + 12) x := fun x => by
    rw [hg4, wI_n (by omega), hg3, wI_n (by omega), hg2, wI_s, f1.I (c + 12) (by simp) (by omega) (by omega)]
    unfold setF
    by_cases e : x < 16
    · rw [if_pos (by omega), if_pos e]
    · rw [if_neg (by omega), if_neg e]
  refine ⟨g4, ?_, (f1.mono (by intro x hx; simp at hx ⊢; omega) (by simp) (by simp) (by simp)).tr (f2.mono (by intro x hx; simp at hx ⊢; omega) (by simp) (by simp) (by simp)), ?_, ?_, fun x hx => by rw [e12, if_pos hx], fun x hx => ?_, fun x hx => ?_⟩
  · rw [p1, q12]
    simp (disch := first | assumption | omega | decide | ((repeat first | apply lyI | apply lyJ | apply lywI | apply lywJ | apply csI | apply csJ | apply cswI | apply cswJ); assumption)) only [SC, LI, ↓li_m1, nI_add, pk_mul, nn_sub, nn_m1, nn_div, nn_rem, nn_nz, nn_mod, nJ_l, lN_add, lN_mul, nn_tb1, nI_bt, nn_and, nn_or, nn_xor, nn_shr, nn_1shl, nn_31, il_p, il_n, it_p, it_n, ie_p, ie_n, ie_b, ie_b1, ie_m, ie_mm, it_m, it_m0, il_m0, bI_rZ, Option.bind_some, bd2_some, Nat.add_zero, Nat.zero_add, if_true, if_false, Bool.false_eq_true, eq_self, hI_R, hJ_R, ng_t, ng_e, q13, q14]
  · rw [f2.I (c + 1) (by simp) (by omega) (by omega), hg1]
    simp only [rI_hI]
    (repeat' split) <;> first | rfl | omega
  · rw [f2.I c (by simp) (by omega) (by omega), hg1]
    simp only [rI_hI]
    refine ⟨?_, ?_, ?_, ?_, ?_, ?_⟩ <;> (repeat' split) <;> first | rfl | omega
  · rw [hg4, wI_n (by omega), hg3, wI_s, setF_in0 hx]
  · rw [hg4, wI_s, setF_in0 hx]
theorem x_rc0 {h : aH} {c : Nat} {T : Nat → Nat} {n m : Nat} (lc : LC h T n m 0) (hs : CS h c) : ∃ h1, (f_X2_readCase h 42 c = bd2 (f_X2_readCase_l29 42 (nI 1) (nI 0) h1) fun t29 h30 => f_X2_readCase_j147 h30 42 t29) ∧ DC (hR h 42 6 (some c)) h1 c T n m 0 A00 V00 B00 Q00 := by
  have hl := lc.1
  have c0 := hs.1
  let g := hR h 42 6 (some c)
  have lg : LAY g := lay_Rg (by decide +kernel) hl
  have sg : CS g c := cs_Rg (by decide) (by decide) (by decide) hs
  have pr : pR h 2 42 6 c = some g := by
    unfold pR
    rw [lay_kd hl 42 (by decide), if_pos (by decide)]
  have g6 : g.2.2.2 42 6 = some c := rR_eq
  obtain ⟨g1, e1, f1, z1, z2, z3, z4, z5⟩ := x_clear sg
  have l1 := f1.lay lg
  have s1 := cs_fr f1 sg
  let g2 := hI g1 42 7 (bI false)
  have l2 : LAY g2 := l1
  have fi : f_J7_fill_53178 g2 48 (nI 0) = some (wI g2 48 (setF (g2.2.1 48) 0 24 (fun _ => nI 0))) := fill_I (lay_kd l2 48 (by decide)) (lay_ln l2 48 (by decide)) (by decide)
  let g3 := wI g2 48 (setF (g2.2.1 48) 0 24 (fun _ => nI 0))
  have f3 : FR g1 g3 [42, 48] [] [] [] := (FR.hI (by decide) (by decide) (by decide)).tr (FR.wI (by decide) (by decide) (by decide))
  have fz : FR g g3 [42, 48, c, c + 1, c + 9, c + 10, c + 12, c + 13, c + 14] [] [] [] := (f1.mono (by intro x hx; simp at hx ⊢; omega) (by simp) (by simp) (by simp)).tr (f3.mono (by simp) (by simp) (by simp) (by simp))
  have fi' : f_J7_fill_53178 (hI g1 42 7 (bI false)) 48 (nI 0) = some g3 := fi
  have lcg : LC g T n m 0 := ⟨lg, lc.2⟩
  have ec : ∀ j, j < 16 → g3.2.1 (c + j) = g1.2.1 (c + j) := fun j hj => f3.I _ (by simp <;> omega) (by omega) (by omega)
  have ec0 := ec 0 (by decide)
  rw [Nat.add_zero] at ec0
  refine ⟨g3, ?_, fz.mono (by intro x hx; unfold LCc; simp at hx ⊢; omega) (by simp) (by simp) (by simp), lc_fr fz (by intro x hx; simp at hx; omega) (by simp) lcg, cs_fr fz sg, by rw [fz.2.1]; exact g6, ?_, ?_, fun v hv => ?_, Or.inl ⟨rfl, ?_⟩⟩
  · unfold f_X2_readCase
    rw [pr, Option.bind_some]
    simp (disch := first | assumption | omega | decide | ((repeat first | apply lyI | apply lyJ | apply lywI | apply lywJ | apply csI | apply csJ | apply cswI | apply cswJ); assumption)) only [SR, SC, LI, ↓li_m1, nI_add, pk_mul, nn_sub, nn_m1, nn_div, nn_rem, nn_nz, nn_mod, nJ_l, lN_add, lN_mul, nn_tb1, nI_bt, nn_and, nn_or, nn_xor, nn_shr, nn_1shl, nn_31, il_p, il_n, it_p, it_n, ie_p, ie_n, ie_b, ie_b1, ie_m, ie_mm, it_m, it_m0, il_m0, bI_rZ, Option.bind_some, bd2_some, Nat.add_zero, Nat.zero_add, if_true, if_false, Bool.false_eq_true, eq_self, hI_R, hJ_R, ng_t, ng_e, g6, e1, fi']
  · refine ⟨0, fun _ => 0, fun _ => 0, rfl, ?_, fun e he => absurd he (by omega), fun s k hs' hk => ?_⟩
    · rw [ec 1 (by decide)]
      exact z1
    · have : cA A00 s = 0 := by rcases lt4 hs' with rfl | rfl | rfl | rfl <;> rfl
      omega
  · obtain ⟨y12, y13, y14, y16, y17, y18⟩ := z2
    unfold DCa
    rw [ec0, ec 5 (by decide), ec 7 (by decide), ec 8 (by decide), ec 11 (by decide), ec 12 (by decide), ec 13 (by decide), ec 14 (by decide)]
    refine ⟨⟨y12, y13, y14, y16, y17, y18⟩, fun f hf => absurd hf (by show ¬ f < 0; omega), fun v hv => absurd hv (by show ¬ v < 0; omega), fun q hq => absurd hq (by show ¬ q < 0; omega), fun v hv => ?_⟩
    have a0 : ∀ k, A00 (76 + 6 * v + k) = 0 := fun k => if_neg (by omega)
    rw [a0 4, a0 5]
    refine ⟨fun k hk => ?_, z4 v hv, z5 v hv⟩
    rw [a0 k]
    exact z3 _ (by omega)
  · show (wI g2 48 (setF (g2.2.1 48) 0 24 (fun _ => nI 0))).2.1 48 v = _
    rw [wI_s, setF_in0 hv]
    rfl
  · show (wI g2 48 (setF (g2.2.1 48) 0 24 (fun _ => nI 0))).2.1 42 7 = _
    rw [wI_n (by decide)]
    exact rI_eq
/-- what a text of a case comes to -/
def XCc (h0 : aH) (c : Nat) (x : Option (Int32 × aH)) (o : OE) : Prop := match o with
  | .inl (f, q) => f ≠ 0 ∧ f < 100 ∧ ∃ h', x = some (nI 0, h') ∧ FR h0 h' (LCc c) (LJc c) [] [] ∧ FL h' f q
  | .inr (_, A, V, Bv, Q) => DV A V Bv Q ∧ ∃ h', x = some (nI 1, h') ∧ FR h0 h' (LCc c) (LJc c) [] [] ∧ LAY h' ∧ CS h' c ∧ CC h' c A (cnP A Bv) Q (anS A (cnP A Bv) Q) ∧ NCl h' c (cA A) V ∧ h'.2.1 4 12 = nI 0 ∧ h'.2.1 4 13 = m1 ∧ h'.2.1 4 6 = nI 0
theorem wp_dv {A : Nat → Nat} {V : Nat → List Nat} {Bv : Nat → Nat} {Q : Nat → Nat → Bool} (dv : DV A V Bv Q) : WP A (cnP A Bv) Q := ⟨dv.2.2.1, fun w hw => by
  unfold cnP at hw
  rw [Bool.and_eq_true, decide_eq_true_eq] at hw
  exact hw.1, fun q w _ hq => (dv.2.2.2.2.2.1 q w hq).2⟩
theorem x_case {h : aH} {c : Nat} {T : Nat → Nat} {n m : Nat} (lc : LC h T n m 0) (hs : CS h c) : ∃ o, XCc (hR h 42 6 (some c)) c (f_X2_readCase h 42 c) o ∧ ∀ k0 k, DR k0 k T n 0 A00 V00 B00 Q00 → OEr k0 T n (f_X12_court_l44 113 (nI 1) k) o := by
  obtain ⟨h1, e1, d1⟩ := x_rc0 lc hs
  have m9 := (lx_t lc).1
  obtain ⟨o, oc, rf⟩ := o_parts (m + 1) 0 0 wN h1 A00 V00 B00 Q00 (by omega) (Nat.le_refl _) (by rw [wN_e]; omega) d1 dv_00
  refine ⟨o, ?_, fun k0 k dr => rf k0 k wN (by rw [wN_e]; omega) dr⟩
  rcases o with ⟨f, q⟩ | ⟨i, A, V, Bv, Q⟩
  · obtain ⟨f0, f9, h', e2, fr, fl⟩ := oc
    have e2' : f_X2_readCase_l29 42 (nI 1) (nI 0) h1 = some (nI 0, h') := e2
    exact ⟨f0, f9, h', by rw [e1, e2', bd2_some]; simp (disch := first | assumption | omega | decide | ((repeat first | apply lyI | apply lyJ | apply lywI | apply lywJ | apply csI | apply csJ | apply cswI | apply cswJ); assumption)) only [f_X2_readCase_j147, LI, ↓li_m1, nI_add, pk_mul, nn_sub, nn_m1, nn_div, nn_rem, nn_nz, nn_mod, nJ_l, lN_add, lN_mul, nn_tb1, nI_bt, nn_and, nn_or, nn_xor, nn_shr, nn_1shl, nn_31, il_p, il_n, it_p, it_n, ie_p, ie_n, ie_b, ie_b1, ie_m, ie_mm, it_m, it_m0, il_m0, bI_rZ, Option.bind_some, bd2_some, Nat.add_zero, Nat.zero_add, if_true, if_false, Bool.false_eq_true, eq_self, hI_R, hJ_R, ng_t, ng_e, rz0], fr, fl⟩
  · obtain ⟨dv, h', e2, d2⟩ := oc
    have e2' : f_X2_readCase_l29 42 (nI 1) (nI 0) h1 = some (nI 1, h') := e2
    obtain ⟨wf, nv, a2, bb, -, -, -, vf, sq⟩ := id dv
    obtain ⟨g, e3, dw⟩ := x_mk (dc_m d2) wf vf a2 bb
    obtain ⟨w1, lcg, sg, g6, ncg, dca, dn, d7, dwo⟩ := dw
    have lg := lcg.1
    have l2 := d2.2.1.1
    have c0 := sg.1
    have cb : CB g c A (cnP A Bv) Q := by
      obtain ⟨⟨g12, g13, g14, g16, g17, g18⟩, gf, gv, gq, gw⟩ := dca
      obtain ⟨v1, v2, v3, v4, v5⟩ := dwo
      have b4 := (wf_b wf).2.2.2.2.2
      exact ⟨⟨g12, g13, g14, v1, g16, g17, g18⟩, fun f hf => ⟨(gf f hf).1, (gf f hf).2, v2 f hf⟩, gv, v3, gq, fun v hv => gw v (by omega)⟩
    obtain ⟨g2, e4, f4, cc⟩ := b_fill sg cb wf lg (wp_dv dv)
    have cl := lcg.2.2.1
    refine ⟨dv, g2, ?_, w1.tr (f4.mono (by intro x hx; unfold LCc; simp at hx ⊢; omega) (by simp) (by simp) (by simp)), f4.lay lg, cs_fr f4 sg, cc, nc_fr f4 sg (by simp <;> omega) (by simp) (by simp <;> omega) (by simp <;> omega) ncg, ?_, ?_, ?_⟩
    · rw [e1, e2', bd2_some]
      simp (disch := first | assumption | omega | decide | ((repeat first | apply lyI | apply lyJ | apply lywI | apply lywJ | apply csI | apply csJ | apply cswI | apply cswJ); assumption)) only [f_X2_readCase_j147, SR, LI, ↓li_m1, nI_add, pk_mul, nn_sub, nn_m1, nn_div, nn_rem, nn_nz, nn_mod, nJ_l, lN_add, lN_mul, nn_tb1, nI_bt, nn_and, nn_or, nn_xor, nn_shr, nn_1shl, nn_31, il_p, il_n, it_p, it_n, ie_p, ie_n, ie_b, ie_b1, ie_m, ie_mm, it_m, it_m0, il_m0, bI_rZ, Option.bind_some, bd2_some, Nat.add_zero, Nat.zero_add, if_true, if_false, Bool.false_eq_true, eq_self, hI_R, hJ_R, ng_t, ng_e, e3, g6, e4, rz1]
    · rw [f4.I 4 (by simp <;> omega) (by decide) (by decide)]
      exact cl.2.2.2.1
    · rw [f4.I 4 (by simp <;> omega) (by decide) (by decide)]
      exact cl.2.2.2.2.1
    · rw [f4.I 4 (by simp <;> omega) (by decide) (by decide)]
      exact cl.2.2.2.2.2
