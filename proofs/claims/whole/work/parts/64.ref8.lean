/-! ===== the reference: two and three ===== -/
theorem upB_s {p : Nat → Bool} {q : Nat} : upB p q q = true := by simp [upB]
theorem upB_n {p : Nat → Bool} {q x : Nat} (h : ¬ x = q) : upB p q x = p x := by
  show (p x || x == q) = p x
  rw [beq_eq_false_iff_ne.mpr h, Bool.or_false]
theorem r_twoAre {h : aH} (hl : LAY h) {A : Nat → Nat} {P : Nat → Bool} {Q : Nat → Nat → Bool} (hc : CM h A P Q) (hw : WF A) {S : Nat → Nat → Nat → Nat → Nat} (hs : SY h A P S) {F : Nat → Nat → Nat} {pu : Nat → Bool} {L gl v q : Nat} {bi : Int32} (hb : FB h A L F) (hF : ∀ v w, F v w < 16) (hP : ∀ v w, F v w ≠ 0 → P w = true) (hpu : PU h pu) (hL : L < 2) (hg : gl < A 3) (hv : v < A 4) (hq : q < A 3) (hpq : pu q = false) : ∃ h', f_X12_twoAre h 113 (nI L) (nI gl) (nI v) (nI q) bi = some (bI (okB A P Q S gl (byN A P Q S gl (askB bi) 1) F pu v q), h') ∧ SL h h' L pu := by
  obtain ⟨b0, b1, b2l, b2, b3, b4⟩ := wf_b hw
  obtain ⟨c0, c1, c2, c3, c4, cA⟩ := cm_e hc
  let h1 := hI h 130 q (bI true)
  have l1 : LAY h1 := hl
  have f1 : FR h h1 [129, 130] [] [] [] := FR.hI (by decide) (by decide) (by decide)
  have p1 : PU h1 (upB pu q) := fun x hx => by
    show (hI h 130 q (bI true)).2.1 130 x = _
    rw [rI_hI]
    by_cases hxq : x = q
    · rw [if_pos ⟨rfl, hxq⟩]
      rw [hxq, upB_s]
    · rw [if_neg (fun e => hxq e.2), hpu x hx, upB_n hxq]
  have b1' : FB h1 A L F := hb
  let pa : Nat → Bool := fun a => !bothB A P Q (anF S v q a F) gl || byN A P Q S gl (askB bi) 1 (anF S v q a F) (upB pu q)
  have e : ∃ e, f_X12_twoAre_l14 113 (nI L) (nI gl) (nI v) (nI q) bi (nI 1) (nI 0) h1 = some e ∧ ∃ g, e = (bI (allB pa (2 * A 3)), g) ∧ SL h1 g L (upB pu q) := by
    refine whl0 (fun i (s : Int32 × Int32 × aH) => ∃ g, s = (bI (allB pa i), nI i, g) ∧ SL h1 g L (upB pu q)) _ (2 * A 3) (by omega) ⟨h1, rfl, sl_rf p1⟩ ?_
    rintro i _ ⟨g, rfl, sg⟩ hi
    have lg := sg.1.lay l1
    have cg : CM g A P Q := cm_fr sg.1 (by decide) (by decide) hc
    have yg : SY g A P S := sy_fr sg.1 (by decide) hs
    obtain ⟨c0, c1, c2, c3, c4, cA⟩ := cm_e cg
    rcases Nat.lt_or_ge i (2 * A 3) with qi | qi
    · rcases (Bool.eq_false_or_eq_true (allB pa i)).symm with hal | hal
      · exact Or.inr ⟨_, by simp (disch := first | assumption | omega | decide) only [f_X12_twoAre_b14, f_X12_twoAre_j83, f_X12_twoAre_j77, f_X12_twoAre_j75, f_X12_twoAre_j70, SM, LI, ↓li_m1, nI_add, pk_mul, nn_sub, nn_m1, nn_div, nn_rem, nn_nz, nn_mod, nJ_l, lN_add, lN_mul, nn_tb1, nI_bt, nn_and, nn_or, nn_xor, nn_shr, nn_1shl, nn_31, il_p, il_n, it_p, it_n, ie_p, ie_n, ie_b, ie_b1, ie_m, ie_mm, it_m, it_m0, il_m0, bI_rZ, Option.bind_some, bd2_some, Nat.add_zero, Nat.zero_add, if_true, if_false, Bool.false_eq_true, eq_self, c3, hal, bI_f]; try rfl, g, by rw [allB_mono hal (by omega)]; rfl, sg⟩
      · obtain ⟨g', e1, f2, v2, fb'⟩ := r_answered lg cg hw yg (lv_fb sg.2.1 hw b1') hF hP (L := L) (by omega) hv hq (a := i) (by omega)
        have lg' := f2.lay lg
        have cg' := cm_fr f2 (by decide) (by decide) cg
        have cle := cntB_le (lfB A P (anF S v q i F)) (A 2)
        have sg' := sl_tr sg (sl_ans sg.2.2 f2 v2)
        have nx : allB pa (i + 1) = pa i := by
          show (allB pa i && pa i) = pa i
          rw [hal, Bool.true_and]
        by_cases hz : cntB (lfB A P (anF S v q i F)) (A 2) = 0
        · have : pa i = true := by
            show (!bothB A P Q (anF S v q i F) gl || _) = true
            rw [both_0 hz]
            rfl
          exact Or.inl ⟨_, by simp (disch := first | assumption | omega | decide) only [f_X12_twoAre_b14, f_X12_twoAre_j83, f_X12_twoAre_j77, f_X12_twoAre_j75, f_X12_twoAre_j70, SM, LI, ↓li_m1, nI_add, pk_mul, nn_sub, nn_m1, nn_div, nn_rem, nn_nz, nn_mod, nJ_l, lN_add, lN_mul, nn_tb1, nI_bt, nn_and, nn_or, nn_xor, nn_shr, nn_1shl, nn_31, il_p, il_n, it_p, it_n, ie_p, ie_n, ie_b, ie_b1, ie_m, ie_mm, it_m, it_m0, il_m0, bI_rZ, Option.bind_some, bd2_some, Nat.add_zero, Nat.zero_add, if_true, if_false, Bool.false_eq_true, eq_self, c3, hal, bI_t, e1]; try rfl, qi, g', by rw [nx, this]; rfl, sg'⟩
        · have r := r_sureAt lg' cg' hw fb' (anF_lt hF) (by omega) hg
          rcases (Bool.eq_false_or_eq_true (bothB A P Q (anF S v q i F) gl)).symm with hbo | hbo
          · have hne : ¬ sureI (someB A P (anF S v q i F) (Q gl) (A 2)) (someB A P (anF S v q i F) (fun w => !Q gl w) (A 2)) = m1 := fun e => by
              rw [both_s hz, hbo] at e
              cases e
            have : pa i = true := by
              show (!bothB A P Q (anF S v q i F) gl || _) = true
              rw [hbo]
              rfl
            exact Or.inl ⟨_, by simp (disch := first | assumption | omega | decide) only [f_X12_twoAre_b14, f_X12_twoAre_j83, f_X12_twoAre_j77, f_X12_twoAre_j75, f_X12_twoAre_j70, SM, LI, ↓li_m1, nI_add, pk_mul, nn_sub, nn_m1, nn_div, nn_rem, nn_nz, nn_mod, nJ_l, lN_add, lN_mul, nn_tb1, nI_bt, nn_and, nn_or, nn_xor, nn_shr, nn_1shl, nn_31, il_p, il_n, it_p, it_n, ie_p, ie_n, ie_b, ie_b1, ie_m, ie_mm, it_m, it_m0, il_m0, bI_rZ, Option.bind_some, bd2_some, Nat.add_zero, Nat.zero_add, if_true, if_false, Bool.false_eq_true, eq_self, c3, hal, bI_t, e1, r, if_neg hne]; try rfl, qi, g', by rw [nx, this]; rfl, sg'⟩
          · have he := (both_s hz).mpr hbo
            obtain ⟨g2, e2, s2⟩ := r_byOne lg' cg' hw (sy_fr f2 (by decide) yg) fb' (pu_fr f2 (by decide) sg.2.2) (m := 0) (bi := bi) (gl := gl) (fun k v q sk hv hq hpk => r_oneIs (sk.1.lay lg') (cm_fr sk.1 (by decide) (by decide) cg') hw (sy_fr sk.1 (by decide) (sy_fr f2 (by decide) yg)) (lv_fb sk.2.1 hw fb') (anF_lt hF) (anF_P hP) sk.2.2 (by omega) hg hv hq (askB bi))
            have : pa i = byN A P Q S gl (askB bi) 1 (anF S v q i F) (upB pu q) := by
              show (!bothB A P Q (anF S v q i F) gl || _) = _
              rw [hbo]
              rfl
            have sg2 := sl_tr sg' (sl_mono s2 (by omega))
            rcases (Bool.eq_false_or_eq_true (byN A P Q S gl (askB bi) 1 (anF S v q i F) (upB pu q))).symm with hby | hby
            · rw [hby] at e2
              exact Or.inl ⟨_, by simp (disch := first | assumption | omega | decide) only [f_X12_twoAre_b14, f_X12_twoAre_j83, f_X12_twoAre_j77, f_X12_twoAre_j75, f_X12_twoAre_j70, SM, LI, ↓li_m1, nI_add, pk_mul, nn_sub, nn_m1, nn_div, nn_rem, nn_nz, nn_mod, nJ_l, lN_add, lN_mul, nn_tb1, nI_bt, nn_and, nn_or, nn_xor, nn_shr, nn_1shl, nn_31, il_p, il_n, it_p, it_n, ie_p, ie_n, ie_b, ie_b1, ie_m, ie_mm, it_m, it_m0, il_m0, bI_rZ, Option.bind_some, bd2_some, Nat.add_zero, Nat.zero_add, if_true, if_false, Bool.false_eq_true, eq_self, c3, hal, bI_t, bI_f, e1, r, he, e2]; try rfl, qi, g2, by rw [nx, this, hby]; rfl, sg2⟩
            · rw [hby] at e2
              exact Or.inl ⟨_, by simp (disch := first | assumption | omega | decide) only [f_X12_twoAre_b14, f_X12_twoAre_j83, f_X12_twoAre_j77, f_X12_twoAre_j75, f_X12_twoAre_j70, SM, LI, ↓li_m1, nI_add, pk_mul, nn_sub, nn_m1, nn_div, nn_rem, nn_nz, nn_mod, nJ_l, lN_add, lN_mul, nn_tb1, nI_bt, nn_and, nn_or, nn_xor, nn_shr, nn_1shl, nn_31, il_p, il_n, it_p, it_n, ie_p, ie_n, ie_b, ie_b1, ie_m, ie_mm, it_m, it_m0, il_m0, bI_rZ, Option.bind_some, bd2_some, Nat.add_zero, Nat.zero_add, if_true, if_false, Bool.false_eq_true, eq_self, c3, hal, bI_t, e1, r, he, e2]; try rfl, qi, g2, by rw [nx, this, hby]; rfl, sg2⟩
    · obtain rfl : i = 2 * A 3 := by omega
      exact Or.inr ⟨_, by simp (disch := first | assumption | omega | decide) only [f_X12_twoAre_b14, f_X12_twoAre_j83, f_X12_twoAre_j77, f_X12_twoAre_j75, f_X12_twoAre_j70, SM, LI, ↓li_m1, nI_add, pk_mul, nn_sub, nn_m1, nn_div, nn_rem, nn_nz, nn_mod, nJ_l, lN_add, lN_mul, nn_tb1, nI_bt, nn_and, nn_or, nn_xor, nn_shr, nn_1shl, nn_31, il_p, il_n, it_p, it_n, ie_p, ie_n, ie_b, ie_b1, ie_m, ie_mm, it_m, it_m0, il_m0, bI_rZ, Option.bind_some, bd2_some, Nat.add_zero, Nat.zero_add, if_true, if_false, Bool.false_eq_true, eq_self, c3]; try rfl, g, rfl, sg⟩
  obtain ⟨_, e1, g, rfl, sg⟩ := e
  have lg := sg.1.lay l1
  refine ⟨hI g 130 q (bI false), by simp (disch := first | assumption | omega | decide) only [f_X12_twoAre, f_X12_twoAre_j83, SM, LI, ↓li_m1, nI_add, pk_mul, nn_sub, nn_m1, nn_div, nn_rem, nn_nz, nn_mod, nJ_l, lN_add, lN_mul, nn_tb1, nI_bt, nn_and, nn_or, nn_xor, nn_shr, nn_1shl, nn_31, il_p, il_n, it_p, it_n, ie_p, ie_n, ie_b, ie_b1, ie_m, ie_mm, it_m, it_m0, il_m0, bI_rZ, Option.bind_some, bd2_some, Nat.add_zero, Nat.zero_add, if_true, if_false, Bool.false_eq_true, eq_self, e1, h1]; try rfl, ?_, fun x hx => ?_, fun x hx => ?_⟩
  · exact (f1.tr sg.1).tr (FR.hI (by decide) (by decide) (by decide))
  · exact sg.2.1 x hx
  · rw [rI_hI]
    by_cases hxq : x = q
    · rw [if_pos ⟨rfl, hxq⟩, hxq, hpq]
    · rw [if_neg (fun e => hxq e.2), sg.2.2 x hx, upB_n hxq]
theorem r_threeAre {h : aH} (hl : LAY h) {A : Nat → Nat} {P : Nat → Bool} {Q : Nat → Nat → Bool} (hc : CM h A P Q) (hw : WF A) {S : Nat → Nat → Nat → Nat → Nat} (hs : SY h A P S) {F : Nat → Nat → Nat} {pu : Nat → Bool} {L gl v q : Nat} {bi : Int32} (hb : FB h A L F) (hF : ∀ v w, F v w < 16) (hP : ∀ v w, F v w ≠ 0 → P w = true) (hpu : PU h pu) (hL : L < 1) (hg : gl < A 3) (hv : v < A 4) (hq : q < A 3) (hpq : pu q = false) : ∃ h', f_X12_threeAre h 113 (nI gl) (nI v) (nI q) bi = some (bI (okB A P Q S gl (byN A P Q S gl (askB bi) 2) F pu v q), h') ∧ SL h h' L pu := by
  obtain ⟨b0, b1, b2l, b2, b3, b4⟩ := wf_b hw
  obtain ⟨c0, c1, c2, c3, c4, cA⟩ := cm_e hc
  obtain rfl : L = 0 := by omega
  let h1 := hI h 130 q (bI true)
  have l1 : LAY h1 := hl
  have f1 : FR h h1 [129, 130] [] [] [] := FR.hI (by decide) (by decide) (by decide)
  have p1 : PU h1 (upB pu q) := fun x hx => by
    show (hI h 130 q (bI true)).2.1 130 x = _
    rw [rI_hI]
    by_cases hxq : x = q
    · rw [if_pos ⟨rfl, hxq⟩]
      rw [hxq, upB_s]
    · rw [if_neg (fun e => hxq e.2), hpu x hx, upB_n hxq]
  have b1' : FB h1 A 0 F := hb
  let pa : Nat → Bool := fun a => !bothB A P Q (anF S v q a F) gl || byN A P Q S gl (askB bi) 2 (anF S v q a F) (upB pu q)
  have e : ∃ e, f_X12_threeAre_l13 113 (nI gl) (nI v) (nI q) bi (nI 1) (nI 0) h1 = some e ∧ ∃ g, e = (bI (allB pa (2 * A 3)), g) ∧ SL h1 g 0 (upB pu q) := by
    refine whl0 (fun i (s : Int32 × Int32 × aH) => ∃ g, s = (bI (allB pa i), nI i, g) ∧ SL h1 g 0 (upB pu q)) _ (2 * A 3) (by omega) ⟨h1, rfl, sl_rf p1⟩ ?_
    rintro i _ ⟨g, rfl, sg⟩ hi
    have lg := sg.1.lay l1
    have cg : CM g A P Q := cm_fr sg.1 (by decide) (by decide) hc
    have yg : SY g A P S := sy_fr sg.1 (by decide) hs
    obtain ⟨c0, c1, c2, c3, c4, cA⟩ := cm_e cg
    rcases Nat.lt_or_ge i (2 * A 3) with qi | qi
    · rcases (Bool.eq_false_or_eq_true (allB pa i)).symm with hal | hal
      · exact Or.inr ⟨_, by simp (disch := first | assumption | omega | decide) only [f_X12_threeAre_b13, f_X12_threeAre_j77, f_X12_threeAre_j71, f_X12_threeAre_j69, f_X12_threeAre_j64, SM, LI, ↓li_m1, nI_add, pk_mul, nn_sub, nn_m1, nn_div, nn_rem, nn_nz, nn_mod, nJ_l, lN_add, lN_mul, nn_tb1, nI_bt, nn_and, nn_or, nn_xor, nn_shr, nn_1shl, nn_31, il_p, il_n, it_p, it_n, ie_p, ie_n, ie_b, ie_b1, ie_m, ie_mm, it_m, it_m0, il_m0, bI_rZ, Option.bind_some, bd2_some, Nat.add_zero, Nat.zero_add, if_true, if_false, Bool.false_eq_true, eq_self, c3, hal, bI_f]; try rfl, g, by rw [allB_mono hal (by omega)]; rfl, sg⟩
      · obtain ⟨g', e1, f2, v2, fb'⟩ := r_answered lg cg hw yg (lv_fb sg.2.1 hw b1') hF hP (L := 0) (by omega) hv hq (a := i) (by omega)
        have lg' := f2.lay lg
        have cg' := cm_fr f2 (by decide) (by decide) cg
        have cle := cntB_le (lfB A P (anF S v q i F)) (A 2)
        have sg' := sl_tr sg (sl_ans sg.2.2 f2 v2)
        have nx : allB pa (i + 1) = pa i := by
          show (allB pa i && pa i) = pa i
          rw [hal, Bool.true_and]
        by_cases hz : cntB (lfB A P (anF S v q i F)) (A 2) = 0
        · have : pa i = true := by
            show (!bothB A P Q (anF S v q i F) gl || _) = true
            rw [both_0 hz]
            rfl
          exact Or.inl ⟨_, by simp (disch := first | assumption | omega | decide) only [f_X12_threeAre_b13, f_X12_threeAre_j77, f_X12_threeAre_j71, f_X12_threeAre_j69, f_X12_threeAre_j64, SM, LI, ↓li_m1, nI_add, pk_mul, nn_sub, nn_m1, nn_div, nn_rem, nn_nz, nn_mod, nJ_l, lN_add, lN_mul, nn_tb1, nI_bt, nn_and, nn_or, nn_xor, nn_shr, nn_1shl, nn_31, il_p, il_n, it_p, it_n, ie_p, ie_n, ie_b, ie_b1, ie_m, ie_mm, it_m, it_m0, il_m0, bI_rZ, Option.bind_some, bd2_some, Nat.add_zero, Nat.zero_add, if_true, if_false, Bool.false_eq_true, eq_self, c3, hal, bI_t, e1]; try rfl, qi, g', by rw [nx, this]; rfl, sg'⟩
        · have r := r_sureAt lg' cg' hw fb' (anF_lt hF) (by omega) hg
          rcases (Bool.eq_false_or_eq_true (bothB A P Q (anF S v q i F) gl)).symm with hbo | hbo
          · have hne : ¬ sureI (someB A P (anF S v q i F) (Q gl) (A 2)) (someB A P (anF S v q i F) (fun w => !Q gl w) (A 2)) = m1 := fun e => by
              rw [both_s hz, hbo] at e
              cases e
            have : pa i = true := by
              show (!bothB A P Q (anF S v q i F) gl || _) = true
              rw [hbo]
              rfl
            exact Or.inl ⟨_, by simp (disch := first | assumption | omega | decide) only [f_X12_threeAre_b13, f_X12_threeAre_j77, f_X12_threeAre_j71, f_X12_threeAre_j69, f_X12_threeAre_j64, SM, LI, ↓li_m1, nI_add, pk_mul, nn_sub, nn_m1, nn_div, nn_rem, nn_nz, nn_mod, nJ_l, lN_add, lN_mul, nn_tb1, nI_bt, nn_and, nn_or, nn_xor, nn_shr, nn_1shl, nn_31, il_p, il_n, it_p, it_n, ie_p, ie_n, ie_b, ie_b1, ie_m, ie_mm, it_m, it_m0, il_m0, bI_rZ, Option.bind_some, bd2_some, Nat.add_zero, Nat.zero_add, if_true, if_false, Bool.false_eq_true, eq_self, c3, hal, bI_t, e1, r, if_neg hne]; try rfl, qi, g', by rw [nx, this]; rfl, sg'⟩
          · have he := (both_s hz).mpr hbo
            obtain ⟨g2, e2, s2⟩ := r_byTwo lg' cg' hw (sy_fr f2 (by decide) yg) fb' (pu_fr f2 (by decide) sg.2.2) (m := 1) (bi := bi) (gl := gl) (fun k v q sk hv hq hpk => r_twoAre (sk.1.lay lg') (cm_fr sk.1 (by decide) (by decide) cg') hw (sy_fr sk.1 (by decide) (sy_fr f2 (by decide) yg)) (lv_fb sk.2.1 hw fb') (anF_lt hF) (anF_P hP) sk.2.2 (by omega) hg hv hq hpk)
            have : pa i = byN A P Q S gl (askB bi) 2 (anF S v q i F) (upB pu q) := by
              show (!bothB A P Q (anF S v q i F) gl || _) = _
              rw [hbo]
              rfl
            have sg2 := sl_tr sg' (sl_mono s2 (by omega))
            rcases (Bool.eq_false_or_eq_true (byN A P Q S gl (askB bi) 2 (anF S v q i F) (upB pu q))).symm with hby | hby
            · rw [hby] at e2
              exact Or.inl ⟨_, by simp (disch := first | assumption | omega | decide) only [f_X12_threeAre_b13, f_X12_threeAre_j77, f_X12_threeAre_j71, f_X12_threeAre_j69, f_X12_threeAre_j64, SM, LI, ↓li_m1, nI_add, pk_mul, nn_sub, nn_m1, nn_div, nn_rem, nn_nz, nn_mod, nJ_l, lN_add, lN_mul, nn_tb1, nI_bt, nn_and, nn_or, nn_xor, nn_shr, nn_1shl, nn_31, il_p, il_n, it_p, it_n, ie_p, ie_n, ie_b, ie_b1, ie_m, ie_mm, it_m, it_m0, il_m0, bI_rZ, Option.bind_some, bd2_some, Nat.add_zero, Nat.zero_add, if_true, if_false, Bool.false_eq_true, eq_self, c3, hal, bI_t, bI_f, e1, r, he, e2]; try rfl, qi, g2, by rw [nx, this, hby]; rfl, sg2⟩
            · rw [hby] at e2
              exact Or.inl ⟨_, by simp (disch := first | assumption | omega | decide) only [f_X12_threeAre_b13, f_X12_threeAre_j77, f_X12_threeAre_j71, f_X12_threeAre_j69, f_X12_threeAre_j64, SM, LI, ↓li_m1, nI_add, pk_mul, nn_sub, nn_m1, nn_div, nn_rem, nn_nz, nn_mod, nJ_l, lN_add, lN_mul, nn_tb1, nI_bt, nn_and, nn_or, nn_xor, nn_shr, nn_1shl, nn_31, il_p, il_n, it_p, it_n, ie_p, ie_n, ie_b, ie_b1, ie_m, ie_mm, it_m, it_m0, il_m0, bI_rZ, Option.bind_some, bd2_some, Nat.add_zero, Nat.zero_add, if_true, if_false, Bool.false_eq_true, eq_self, c3, hal, bI_t, e1, r, he, e2]; try rfl, qi, g2, by rw [nx, this, hby]; rfl, sg2⟩
    · obtain rfl : i = 2 * A 3 := by omega
      exact Or.inr ⟨_, by simp (disch := first | assumption | omega | decide) only [f_X12_threeAre_b13, f_X12_threeAre_j77, f_X12_threeAre_j71, f_X12_threeAre_j69, f_X12_threeAre_j64, SM, LI, ↓li_m1, nI_add, pk_mul, nn_sub, nn_m1, nn_div, nn_rem, nn_nz, nn_mod, nJ_l, lN_add, lN_mul, nn_tb1, nI_bt, nn_and, nn_or, nn_xor, nn_shr, nn_1shl, nn_31, il_p, il_n, it_p, it_n, ie_p, ie_n, ie_b, ie_b1, ie_m, ie_mm, it_m, it_m0, il_m0, bI_rZ, Option.bind_some, bd2_some, Nat.add_zero, Nat.zero_add, if_true, if_false, Bool.false_eq_true, eq_self, c3]; try rfl, g, rfl, sg⟩
  obtain ⟨_, e1, g, rfl, sg⟩ := e
  have lg := sg.1.lay l1
  refine ⟨hI g 130 q (bI false), by simp (disch := first | assumption | omega | decide) only [f_X12_threeAre, f_X12_threeAre_j77, SM, LI, ↓li_m1, nI_add, pk_mul, nn_sub, nn_m1, nn_div, nn_rem, nn_nz, nn_mod, nJ_l, lN_add, lN_mul, nn_tb1, nI_bt, nn_and, nn_or, nn_xor, nn_shr, nn_1shl, nn_31, il_p, il_n, it_p, it_n, ie_p, ie_n, ie_b, ie_b1, ie_m, ie_mm, it_m, it_m0, il_m0, bI_rZ, Option.bind_some, bd2_some, Nat.add_zero, Nat.zero_add, if_true, if_false, Bool.false_eq_true, eq_self, e1, h1]; try rfl, ?_, fun x hx => ?_, fun x hx => ?_⟩
  · exact (f1.tr sg.1).tr (FR.hI (by decide) (by decide) (by decide))
  · exact sg.2.1 x hx
  · rw [rI_hI]
    by_cases hxq : x = q
    · rw [if_pos ⟨rfl, hxq⟩, hxq, hpq]
    · rw [if_neg (fun e => hxq e.2), sg.2.2 x hx, upB_n hxq]
