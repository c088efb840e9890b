/-! ===== the reference: the fewest that are enough ===== -/
theorem r_isM {h : aH} (hl : LAY h) {A : Nat → Nat} {P : Nat → Bool} {Q : Nat → Nat → Bool} (hc : CM h A P Q) (hw : WF A) {S : Nat → Nat → Nat → Nat → Nat} (hs : SY h A P S) {F : Nat → Nat → Nat} {pu : Nat → Bool} {gl v q m : Nat} {bi : Int32} (hb : FB h A 0 F) (hF : ∀ v w, F v w < 16) (hP : ∀ v w, F v w ≠ 0 → P w = true) (hpu : PU h pu) (hg : gl < A 3) (hv : v < A 4) (hq : q < A 3) (hpq : pu q = false) (hm : m < 3) : ∃ h', (if m = 0 then f_X12_oneIs h 113 (nI 0) (nI gl) (nI v) (nI q) else if m = 1 then f_X12_twoAre h 113 (nI 0) (nI gl) (nI v) (nI q) bi else f_X12_threeAre h 113 (nI gl) (nI v) (nI q) bi) = some (bI (okB A P Q S gl (byN A P Q S gl (askB bi) m) F pu v q), h') ∧ SL h h' 0 pu := by
  by_cases h0 : m = 0
  · subst h0
    rw [if_pos rfl]
    exact r_oneIs hl hc hw hs hb hF hP hpu (by decide) hg hv hq (askB bi)
  · by_cases h1 : m = 1
    · subst h1
      rw [if_neg (by decide), if_pos rfl]
      exact r_twoAre hl hc hw hs hb hF hP hpu (by decide) hg hv hq hpq
    · obtain rfl : m = 2 := by omega
      rw [if_neg (by decide), if_neg (by decide)]
      exact r_threeAre hl hc hw hs (L := 0) hb hF hP hpu (by decide) hg hv hq hpq
theorem r_enough {h : aH} (hl : LAY h) {A : Nat → Nat} {P : Nat → Bool} {Q : Nat → Nat → Bool} (hc : CM h A P Q) (hw : WF A) {S : Nat → Nat → Nat → Nat → Nat} (hs : SY h A P S) {F : Nat → Nat → Nat} {pu : Nat → Bool} {gl m : Nat} {bi : Int32} (hb : FB h A 0 F) (hF : ∀ v w, F v w < 16) (hP : ∀ v w, F v w ≠ 0 → P w = true) (hpu : PU h pu) (hg : gl < A 3) (hm : m < 3) : ∃ h', f_X12_areEnough h 113 (nI (m + 1)) (nI gl) bi = some (bI (ffO A (askB bi) (fun v q => !pu q && okB A P Q S gl (byN A P Q S gl (askB bi) m) F pu v q)).isSome, h') ∧ FR h h' [129, 130] [] [] [37, 38] ∧ LV h h' 0 ∧ PU h' pu ∧ match ffO A (askB bi) (fun v q => !pu q && okB A P Q S gl (byN A P Q S gl (askB bi) m) F pu v q) with | some (v, q) => h'.2.1 113 37 = nI v ∧ h'.2.1 113 38 = nI q | none => h'.2.1 113 37 = h.2.1 113 37 ∧ h'.2.1 113 38 = h.2.1 113 38 := by
  obtain ⟨b0, b1, b2l, b2, b3, b4⟩ := wf_b hw
  obtain ⟨c0, c1, c2, c3, c4, cA⟩ := cm_e hc
  let ok : Nat → Nat → Bool := fun v q => !pu q && okB A P Q S gl (byN A P Q S gl (askB bi) m) F pu v q
  have e1 : ∀ g v, SL h g 0 pu → v < A 4 → ∃ e, f_X12_areEnough_l17 113 (nI (m + 1)) (nI gl) bi (nI v) (nI 0) g = some e ∧ ∃ g', SL h g' 0 pu ∧ ((∃ q, askB bi v = true ∧ firstB (ok v) (A 3) = some q ∧ e = .inl (nI q, g')) ∨ ((askB bi v && anyB (ok v) (A 3)) = false ∧ e = .inr g')) := fun g0 v s0 hv => by
    refine whl0 (fun i (s : Int32 × aH) => ∃ g, s = (nI i, g) ∧ SL h g 0 pu ∧ ∀ q, q < i → (askB bi v && ok v q) = false) _ (A 3) (by omega) ⟨g0, rfl, s0, fun q hq => absurd hq (by omega)⟩ ?_
    rintro i _ ⟨g, rfl, sg, hi0⟩ hi
    have lg := sg.1.lay hl
    have cg := cm_fr sg.1 (by decide) (by decide) hc
    obtain ⟨c0, c1, c2, c3, c4, cA⟩ := cm_e cg
    have ra := r_isAsked (h := g) (v := v) (bi := bi)
    rcases Nat.lt_or_ge i (A 3) with qi | qi
    · have ep := sg.2.2 i (by omega)
      have nx : (askB bi v && ok v i) = false → ∀ q, q < i + 1 → (askB bi v && ok v q) = false := fun hh q hq => by
        rcases Nat.lt_or_ge q i with u | u
        · exact hi0 q u
        · rw [show q = i by omega, hh]
      rcases (Bool.eq_false_or_eq_true (askB bi v)).symm with hak | hak
      · rw [hak] at ra
        exact Or.inl ⟨(nI (i + 1), g), by simp (disch := first | assumption | omega | decide | ((repeat first | apply lyI | apply lyJ | apply lywI | apply lywJ | apply csI | apply csJ | apply cswI | apply cswJ); assumption)) only [f_X12_areEnough_b17, f_X12_areEnough_j110, f_X12_areEnough_j124, SM, LI, ↓li_m1, nI_add, pk_mul, nn_sub, nn_m1, nn_div, nn_rem, nn_nz, nn_mod, nJ_l, lN_add, lN_mul, nn_tb1, nI_bt, nn_and, nn_or, nn_xor, nn_shr, nn_1shl, nn_31, il_p, il_n, it_p, it_n, ie_p, ie_n, ie_b, ie_b1, ie_m, ie_mm, it_m, it_m0, il_m0, bI_rZ, Option.bind_some, bd2_some, Nat.add_zero, Nat.zero_add, if_true, if_false, Bool.false_eq_true, eq_self, hI_R, hJ_R, c3, ra, bI_f], qi, g, rfl, sg, nx (by rw [hak]; rfl)⟩
      · rw [hak] at ra
        rcases (Bool.eq_false_or_eq_true (pu i)).symm with hpi | hpi
        · rw [hpi] at ep
          obtain ⟨g', r, s1⟩ := r_isM lg cg hw (sy_fr sg.1 (by decide) hs) (lv_fb sg.2.1 hw hb) hF hP sg.2.2 hg hv qi hpi (bi := bi) hm
          have bd : f_X12_areEnough_b17 113 (nI (m + 1)) (nI gl) bi (nI v) (nI i) g = if okB A P Q S gl (byN A P Q S gl (askB bi) m) F pu v i = true then some (.inr (.inl (nI i, g'))) else some (.inl (nI (i + 1), g')) := by
            rcases (Bool.eq_false_or_eq_true (okB A P Q S gl (byN A P Q S gl (askB bi) m) F pu v i)).symm with hok | hok
            · rw [hok] at r
              rcases (show m = 0 ∨ m = 1 ∨ m = 2 by omega) with rfl | rfl | rfl
              · rw [if_pos rfl] at r
                simp (disch := first | assumption | omega | decide | ((repeat first | apply lyI | apply lyJ | apply lywI | apply lywJ | apply csI | apply csJ | apply cswI | apply cswJ); assumption)) only [f_X12_areEnough_b17, f_X12_areEnough_j110, f_X12_areEnough_j124, SM, LI, ↓li_m1, nI_add, pk_mul, nn_sub, nn_m1, nn_div, nn_rem, nn_nz, nn_mod, nJ_l, lN_add, lN_mul, nn_tb1, nI_bt, nn_and, nn_or, nn_xor, nn_shr, nn_1shl, nn_31, il_p, il_n, it_p, it_n, ie_p, ie_n, ie_b, ie_b1, ie_m, ie_mm, it_m, it_m0, il_m0, bI_rZ, Option.bind_some, bd2_some, Nat.add_zero, Nat.zero_add, if_true, if_false, Bool.false_eq_true, eq_self, hI_R, hJ_R, c3, ra, bI_t, ep, bI_f, r, hok]
              · rw [if_neg (by decide), if_pos rfl] at r
                simp (disch := first | assumption | omega | decide | ((repeat first | apply lyI | apply lyJ | apply lywI | apply lywJ | apply csI | apply csJ | apply cswI | apply cswJ); assumption)) only [f_X12_areEnough_b17, f_X12_areEnough_j110, f_X12_areEnough_j124, SM, LI, ↓li_m1, nI_add, pk_mul, nn_sub, nn_m1, nn_div, nn_rem, nn_nz, nn_mod, nJ_l, lN_add, lN_mul, nn_tb1, nI_bt, nn_and, nn_or, nn_xor, nn_shr, nn_1shl, nn_31, il_p, il_n, it_p, it_n, ie_p, ie_n, ie_b, ie_b1, ie_m, ie_mm, it_m, it_m0, il_m0, bI_rZ, Option.bind_some, bd2_some, Nat.add_zero, Nat.zero_add, if_true, if_false, Bool.false_eq_true, eq_self, hI_R, hJ_R, c3, ra, bI_t, ep, bI_f, r, hok]
              · rw [if_neg (by decide), if_neg (by decide)] at r
                simp (disch := first | assumption | omega | decide | ((repeat first | apply lyI | apply lyJ | apply lywI | apply lywJ | apply csI | apply csJ | apply cswI | apply cswJ); assumption)) only [f_X12_areEnough_b17, f_X12_areEnough_j110, f_X12_areEnough_j124, SM, LI, ↓li_m1, nI_add, pk_mul, nn_sub, nn_m1, nn_div, nn_rem, nn_nz, nn_mod, nJ_l, lN_add, lN_mul, nn_tb1, nI_bt, nn_and, nn_or, nn_xor, nn_shr, nn_1shl, nn_31, il_p, il_n, it_p, it_n, ie_p, ie_n, ie_b, ie_b1, ie_m, ie_mm, it_m, it_m0, il_m0, bI_rZ, Option.bind_some, bd2_some, Nat.add_zero, Nat.zero_add, if_true, if_false, Bool.false_eq_true, eq_self, hI_R, hJ_R, c3, ra, bI_t, ep, bI_f, r, hok]
            · rw [hok] at r
              rcases (show m = 0 ∨ m = 1 ∨ m = 2 by omega) with rfl | rfl | rfl
              · rw [if_pos rfl] at r
                simp (disch := first | assumption | omega | decide | ((repeat first | apply lyI | apply lyJ | apply lywI | apply lywJ | apply csI | apply csJ | apply cswI | apply cswJ); assumption)) only [f_X12_areEnough_b17, f_X12_areEnough_j110, f_X12_areEnough_j124, SM, LI, ↓li_m1, nI_add, pk_mul, nn_sub, nn_m1, nn_div, nn_rem, nn_nz, nn_mod, nJ_l, lN_add, lN_mul, nn_tb1, nI_bt, nn_and, nn_or, nn_xor, nn_shr, nn_1shl, nn_31, il_p, il_n, it_p, it_n, ie_p, ie_n, ie_b, ie_b1, ie_m, ie_mm, it_m, it_m0, il_m0, bI_rZ, Option.bind_some, bd2_some, Nat.add_zero, Nat.zero_add, if_true, if_false, Bool.false_eq_true, eq_self, hI_R, hJ_R, c3, ra, bI_t, ep, bI_f, r, hok]
              · rw [if_neg (by decide), if_pos rfl] at r
                simp (disch := first | assumption | omega | decide | ((repeat first | apply lyI | apply lyJ | apply lywI | apply lywJ | apply csI | apply csJ | apply cswI | apply cswJ); assumption)) only [f_X12_areEnough_b17, f_X12_areEnough_j110, f_X12_areEnough_j124, SM, LI, ↓li_m1, nI_add, pk_mul, nn_sub, nn_m1, nn_div, nn_rem, nn_nz, nn_mod, nJ_l, lN_add, lN_mul, nn_tb1, nI_bt, nn_and, nn_or, nn_xor, nn_shr, nn_1shl, nn_31, il_p, il_n, it_p, it_n, ie_p, ie_n, ie_b, ie_b1, ie_m, ie_mm, it_m, it_m0, il_m0, bI_rZ, Option.bind_some, bd2_some, Nat.add_zero, Nat.zero_add, if_true, if_false, Bool.false_eq_true, eq_self, hI_R, hJ_R, c3, ra, bI_t, ep, bI_f, r, hok]
              · rw [if_neg (by decide), if_neg (by decide)] at r
                simp (disch := first | assumption | omega | decide | ((repeat first | apply lyI | apply lyJ | apply lywI | apply lywJ | apply csI | apply csJ | apply cswI | apply cswJ); assumption)) only [f_X12_areEnough_b17, f_X12_areEnough_j110, f_X12_areEnough_j124, SM, LI, ↓li_m1, nI_add, pk_mul, nn_sub, nn_m1, nn_div, nn_rem, nn_nz, nn_mod, nJ_l, lN_add, lN_mul, nn_tb1, nI_bt, nn_and, nn_or, nn_xor, nn_shr, nn_1shl, nn_31, il_p, il_n, it_p, it_n, ie_p, ie_n, ie_b, ie_b1, ie_m, ie_mm, it_m, it_m0, il_m0, bI_rZ, Option.bind_some, bd2_some, Nat.add_zero, Nat.zero_add, if_true, if_false, Bool.false_eq_true, eq_self, hI_R, hJ_R, c3, ra, bI_t, ep, bI_f, r, hok]
          rcases (Bool.eq_false_or_eq_true (okB A P Q S gl (byN A P Q S gl (askB bi) m) F pu v i)).symm with hok | hok
          · rw [if_neg (by rw [hok]; decide)] at bd
            exact Or.inl ⟨_, bd, qi, g', rfl, sl_tr sg s1, nx (by show (_ && (!pu i && _)) = false; rw [hok, Bool.and_false, Bool.and_false])⟩
          · rw [if_pos hok] at bd
            have okt : ok v i = true := by
              show (!pu i && _) = true
              rw [hok, hpi]
              rfl
            exact Or.inr ⟨_, bd, g', sl_tr sg s1, Or.inl ⟨i, hak, firstB_s.mpr ⟨qi, okt, fun q hq => by have := hi0 q hq; rw [hak, Bool.true_and] at this; exact this⟩, rfl⟩⟩
        · rw [hpi] at ep
          exact Or.inl ⟨(nI (i + 1), g), by simp (disch := first | assumption | omega | decide | ((repeat first | apply lyI | apply lyJ | apply lywI | apply lywJ | apply csI | apply csJ | apply cswI | apply cswJ); assumption)) only [f_X12_areEnough_b17, f_X12_areEnough_j110, f_X12_areEnough_j124, SM, LI, ↓li_m1, nI_add, pk_mul, nn_sub, nn_m1, nn_div, nn_rem, nn_nz, nn_mod, nJ_l, lN_add, lN_mul, nn_tb1, nI_bt, nn_and, nn_or, nn_xor, nn_shr, nn_1shl, nn_31, il_p, il_n, it_p, it_n, ie_p, ie_n, ie_b, ie_b1, ie_m, ie_mm, it_m, it_m0, il_m0, bI_rZ, Option.bind_some, bd2_some, Nat.add_zero, Nat.zero_add, if_true, if_false, Bool.false_eq_true, eq_self, hI_R, hJ_R, c3, ra, bI_t, ep], qi, g, rfl, sg, nx (by show (_ && (!pu i && _)) = false; rw [hpi]; simp)⟩
    · obtain rfl : i = A 3 := by omega
      refine Or.inr ⟨.inr g, by simp (disch := first | assumption | omega | decide | ((repeat first | apply lyI | apply lyJ | apply lywI | apply lywJ | apply csI | apply csJ | apply cswI | apply cswJ); assumption)) only [f_X12_areEnough_b17, f_X12_areEnough_j110, f_X12_areEnough_j124, SM, LI, ↓li_m1, nI_add, pk_mul, nn_sub, nn_m1, nn_div, nn_rem, nn_nz, nn_mod, nJ_l, lN_add, lN_mul, nn_tb1, nI_bt, nn_and, nn_or, nn_xor, nn_shr, nn_1shl, nn_31, il_p, il_n, it_p, it_n, ie_p, ie_n, ie_b, ie_b1, ie_m, ie_mm, it_m, it_m0, il_m0, bI_rZ, Option.bind_some, bd2_some, Nat.add_zero, Nat.zero_add, if_true, if_false, Bool.false_eq_true, eq_self, hI_R, hJ_R, c3], g, sg, Or.inr ⟨?_, rfl⟩⟩
      cases hak : askB bi v
      · rfl
      · rw [Bool.true_and, anyB_f]
        intro q hq
        have := hi0 q hq
        rw [hak, Bool.true_and] at this
        exact this
  have e2 : ∃ e, f_X12_areEnough_l3 113 (nI (m + 1)) (nI gl) bi (nI 0) h = some e ∧ ∃ g', SL h g' 0 pu ∧ ((∃ v q, ffO A (askB bi) ok = some (v, q) ∧ e = .inl (nI v, nI q, g')) ∨ (ffO A (askB bi) ok = none ∧ e = .inr g')) := by
    refine whl0 (fun i (s : Int32 × aH) => ∃ g, s = (nI i, g) ∧ SL h g 0 pu ∧ ∀ v, v < i → (askB bi v && anyB (ok v) (A 3)) = false) _ (A 4) (by omega) ⟨h, rfl, sl_rf hpu, fun v hv => absurd hv (by omega)⟩ ?_
    rintro i _ ⟨g, rfl, sg, hi0⟩ hi
    have lg := sg.1.lay hl
    obtain ⟨c0, c1, c2, c3, c4, cA⟩ := cm_e (cm_fr sg.1 (by decide) (by decide) hc)
    rcases Nat.lt_or_ge i (A 4) with qi | qi
    · obtain ⟨_, ee, g', sg', ⟨q, hak, hq, rfl⟩ | ⟨hq, rfl⟩⟩ := e1 g i sg qi
      · refine Or.inr ⟨.inl (nI i, nI q, g'), by simp (disch := first | assumption | omega | decide | ((repeat first | apply lyI | apply lyJ | apply lywI | apply lywJ | apply csI | apply csJ | apply cswI | apply cswJ); assumption)) only [f_X12_areEnough_b3, f_X12_areEnough_j110, f_X12_areEnough_j124, SM, LI, ↓li_m1, nI_add, pk_mul, nn_sub, nn_m1, nn_div, nn_rem, nn_nz, nn_mod, nJ_l, lN_add, lN_mul, nn_tb1, nI_bt, nn_and, nn_or, nn_xor, nn_shr, nn_1shl, nn_31, il_p, il_n, it_p, it_n, ie_p, ie_n, ie_b, ie_b1, ie_m, ie_mm, it_m, it_m0, il_m0, bI_rZ, Option.bind_some, bd2_some, Nat.add_zero, Nat.zero_add, if_true, if_false, Bool.false_eq_true, eq_self, hI_R, hJ_R, c4, ee], g', sg', Or.inl ⟨i, q, ?_, rfl⟩⟩
        have : firstB (fun v => askB bi v && anyB (ok v) (A 3)) (A 4) = some i := firstB_s.mpr ⟨qi, by rw [hak, anyB_first, hq]; rfl, hi0⟩
        unfold ffO
        rw [this]
        simp only [hq]
      · refine Or.inl ⟨(nI (i + 1), g'), by simp (disch := first | assumption | omega | decide | ((repeat first | apply lyI | apply lyJ | apply lywI | apply lywJ | apply csI | apply csJ | apply cswI | apply cswJ); assumption)) only [f_X12_areEnough_b3, f_X12_areEnough_j110, f_X12_areEnough_j124, SM, LI, ↓li_m1, nI_add, pk_mul, nn_sub, nn_m1, nn_div, nn_rem, nn_nz, nn_mod, nJ_l, lN_add, lN_mul, nn_tb1, nI_bt, nn_and, nn_or, nn_xor, nn_shr, nn_1shl, nn_31, il_p, il_n, it_p, it_n, ie_p, ie_n, ie_b, ie_b1, ie_m, ie_mm, it_m, it_m0, il_m0, bI_rZ, Option.bind_some, bd2_some, Nat.add_zero, Nat.zero_add, if_true, if_false, Bool.false_eq_true, eq_self, hI_R, hJ_R, c4, ee], qi, g', rfl, sg', fun v hv => ?_⟩
        rcases Nat.lt_or_ge v i with u | u
        · exact hi0 v u
        · rw [show v = i by omega, hq]
    · obtain rfl : i = A 4 := by omega
      refine Or.inr ⟨.inr g, by simp (disch := first | assumption | omega | decide | ((repeat first | apply lyI | apply lyJ | apply lywI | apply lywJ | apply csI | apply csJ | apply cswI | apply cswJ); assumption)) only [f_X12_areEnough_b3, f_X12_areEnough_j110, f_X12_areEnough_j124, SM, LI, ↓li_m1, nI_add, pk_mul, nn_sub, nn_m1, nn_div, nn_rem, nn_nz, nn_mod, nJ_l, lN_add, lN_mul, nn_tb1, nI_bt, nn_and, nn_or, nn_xor, nn_shr, nn_1shl, nn_31, il_p, il_n, it_p, it_n, ie_p, ie_n, ie_b, ie_b1, ie_m, ie_mm, it_m, it_m0, il_m0, bI_rZ, Option.bind_some, bd2_some, Nat.add_zero, Nat.zero_add, if_true, if_false, Bool.false_eq_true, eq_self, hI_R, hJ_R, c4], g, sg, Or.inr ⟨?_, rfl⟩⟩
      unfold ffO
      rw [firstB_n.mpr hi0]
  obtain ⟨_, e3, g, sg, ⟨v, q, hx, rfl⟩ | ⟨hx, rfl⟩⟩ := e2
  · have lg := sg.1.lay hl
    have hx' : ffO A (askB bi) (fun v q => !pu q && okB A P Q S gl (byN A P Q S gl (askB bi) m) F pu v q) = some (v, q) := hx
    rw [hx']
    refine ⟨hI (hI g 113 37 (nI v)) 113 38 (nI q), by simp (disch := first | assumption | omega | decide | ((repeat first | apply lyI | apply lyJ | apply lywI | apply lywJ | apply csI | apply csJ | apply cswI | apply cswJ); assumption)) only [f_X12_areEnough, f_X12_areEnough_j110, SM, LI, ↓li_m1, nI_add, pk_mul, nn_sub, nn_m1, nn_div, nn_rem, nn_nz, nn_mod, nJ_l, lN_add, lN_mul, nn_tb1, nI_bt, nn_and, nn_or, nn_xor, nn_shr, nn_1shl, nn_31, il_p, il_n, it_p, it_n, ie_p, ie_n, ie_b, ie_b1, ie_m, ie_mm, it_m, it_m0, il_m0, bI_rZ, Option.bind_some, bd2_some, Nat.add_zero, Nat.zero_add, if_true, if_false, Bool.false_eq_true, eq_self, hI_R, hJ_R, e3]; try rfl, ?_, sg.2.1, sg.2.2, ?_, ?_⟩
    · exact ((sg.1.mono (by decide) (by decide) (by decide) (by decide)).tr (fr_1 (by decide))).tr (fr_1 (by decide))
    · show (hI (hI g 113 37 (nI v)) 113 38 (nI q)).2.1 113 37 = _
      rw [rI_hI, if_neg (by decide), rI_hI, if_pos ⟨rfl, rfl⟩]
    · show (hI (hI g 113 37 (nI v)) 113 38 (nI q)).2.1 113 38 = _
      rw [rI_hI, if_pos ⟨rfl, rfl⟩]
  · have hx' : ffO A (askB bi) (fun v q => !pu q && okB A P Q S gl (byN A P Q S gl (askB bi) m) F pu v q) = none := hx
    rw [hx']
    exact ⟨g, by simp (disch := first | assumption | omega | decide | ((repeat first | apply lyI | apply lyJ | apply lywI | apply lywJ | apply csI | apply csJ | apply cswI | apply cswJ); assumption)) only [f_X12_areEnough, SM, LI, ↓li_m1, nI_add, pk_mul, nn_sub, nn_m1, nn_div, nn_rem, nn_nz, nn_mod, nJ_l, lN_add, lN_mul, nn_tb1, nI_bt, nn_and, nn_or, nn_xor, nn_shr, nn_1shl, nn_31, il_p, il_n, it_p, it_n, ie_p, ie_n, ie_b, ie_b1, ie_m, ie_mm, it_m, it_m0, il_m0, bI_rZ, Option.bind_some, bd2_some, Nat.add_zero, Nat.zero_add, if_true, if_false, Bool.false_eq_true, eq_self, hI_R, hJ_R, e3]; try rfl, sg.1.mono (by decide) (by decide) (by decide) (by decide), sg.2.1, sg.2.2, sg.1.2.2.2.2.2 37 (by decide), sg.1.2.2.2.2.2 38 (by decide)⟩
