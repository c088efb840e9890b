/-! ===== the search ahead: settles, all together ===== -/
def FstOK (A : Nat → Nat) (P : Nat → Bool) (Q : Nat → Nat → Bool) (S : Nat → Nat → Nat → Nat → Nat) (gl : Nat) (bi : Int32) (c l m : Nat) (fo : aH → Nat → Int32 → Int32 → Int32 → Option (Int32 × aH)) : Prop := ∀ (h : aH) (F : Nat → Nat → Nat) (pm : Nat) (pu : Nat → Bool), LAY h → CS h c → CC h c A P Q S → h.2.2.2 52 4 = some c → (∀ v w, F v w < 16) → WL h A P l F → SQ h gl bi → pm < 4096 → (∀ x, x < 12 → pm.testBit x = pu x) → ∃ h' r, fo h 61 (nI l) (nI m) (nI pm) = some (r, h') ∧ (r = m1 ↔ byN A P Q S gl (askB bi) m F pu = false) ∧ SF h h' l
theorem op_lt {A : Nat → Nat} {P : Nat → Bool} {Q : Nat → Nat → Bool} {S : Nat → Nat → Nat → Nat → Nat} {F : Nat → Nat → Nat} {v q gl : Nat} (h3 : A 3 ≤ 12) (hS : ∀ w k, w < A 2 → P w = true → k < 4 → S v q w k < 2 * A 3) : opN A P Q S F v q gl < 2 ^ (2 * A 3) := Nat.lt_of_le_of_lt Nat.and_le_left (ob_lt h3 hS _ (Nat.le_refl _))
theorem tb_ex {x n : Nat} (h0 : x ≠ 0) (hx : x < 2 ^ n) : ∃ a, a < n ∧ x.testBit a = true := by
  obtain ⟨a, ha⟩ := Nat.exists_testBit_of_ne_zero h0
  refine ⟨a, ?_, ha⟩
  rcases Nat.lt_or_ge a n with q | q
  · exact q
  · rw [Nat.testBit_lt_two_pow (Nat.lt_of_lt_of_le hx (Nat.pow_le_pow_right (by decide) q))] at ha
    cases ha
theorem k_sett {A : Nat → Nat} {P : Nat → Bool} {Q : Nat → Nat → Bool} {S : Nat → Nat → Nat → Nat → Nat} {gl c l m : Nat} {bi : Int32} (hw : WF A) (hg : gl < A 3) (hl3 : l < 3) {fo : aH → Nat → Int32 → Int32 → Int32 → Option (Int32 × aH)} (hfo : m = 0 ∨ (l < 2 ∧ m < 3 ∧ FstOK A P Q S gl bi c (l + 1) m fo)) : SetOK A P Q S gl bi c l m (f_X9_settles_g fo) := by
  intro h F pm pu v q hl hs hc hf hF wl sq hp hpu hv hq hpq
  obtain ⟨b0, b1, b2l, b2, b3, b4⟩ := wf_b hw
  have hS : ∀ w k, w < A 2 → P w = true → k < 4 → S v q w k < 2 * A 3 := fun w k h1 h2 h3 => (hc.2.2.2.2.2.2 v q w hv hq h1 h2).2 k h3
  have p24 : 2 ^ (2 * A 3) ≤ 2 ^ 24 := Nat.pow_le_pow_right (by decide) (by omega)
  have ol := op_lt (Q := Q) (F := F) (gl := gl) b3 hS
  obtain ⟨o, r, o1, o2, o3⟩ := k_open hs hc hw hl hf hF wl sq hl3 hv hq hg (m == 0)
  have bit : ∀ a, (opN A P Q S F v q gl).testBit a = bothB A P Q (anF S v q a F) gl := fun a => op_bit hF hv
  by_cases hz : o = 0
  · have ok : okB A P Q S gl (byN A P Q S gl (askB bi) m) F pu v q = true := allB_iff.mpr (fun a _ => by
      rw [← bit a, o2.mp hz, Nat.zero_testBit]
      rfl)
    rw [ok]
    rw [hz] at r
    rcases hfo with rfl | ⟨hl2, m3, -⟩
    · have r' : f_X9_openBehind h 61 (nI l) (nI v) (nI q) (nI 1) = some (nI 0) := r
      exact ⟨h, by simp (disch := first | assumption | omega | decide | ((repeat first | apply lyI | apply lyJ | apply lywI | apply lywJ | apply csI | apply csJ | apply cswI | apply cswJ); assumption)) only [f_X9_settles_g, f_X9_settles_j15, SS, LI, ↓li_m1, nI_add, pk_mul, nn_sub, nn_m1, nn_div, nn_rem, nn_nz, nn_mod, nJ_l, lN_add, lN_mul, nn_tb1, nI_bt, nn_and, nn_or, nn_xor, nn_shr, nn_1shl, nn_31, il_p, il_n, it_p, it_n, ie_p, ie_n, ie_b, ie_b1, ie_m, ie_mm, it_m, it_m0, il_m0, bI_rZ, Option.bind_some, bd2_some, Nat.add_zero, Nat.zero_add, if_true, if_false, Bool.false_eq_true, eq_self, hI_R, hJ_R, r']; try rfl, sf_rf⟩
    · by_cases m0 : m = 0
      · subst m0
        have r' : f_X9_openBehind h 61 (nI l) (nI v) (nI q) (nI 1) = some (nI 0) := r
        exact ⟨h, by simp (disch := first | assumption | omega | decide | ((repeat first | apply lyI | apply lyJ | apply lywI | apply lywJ | apply csI | apply csJ | apply cswI | apply cswJ); assumption)) only [f_X9_settles_g, f_X9_settles_j15, SS, LI, ↓li_m1, nI_add, pk_mul, nn_sub, nn_m1, nn_div, nn_rem, nn_nz, nn_mod, nJ_l, lN_add, lN_mul, nn_tb1, nI_bt, nn_and, nn_or, nn_xor, nn_shr, nn_1shl, nn_31, il_p, il_n, it_p, it_n, ie_p, ie_n, ie_b, ie_b1, ie_m, ie_mm, it_m, it_m0, il_m0, bI_rZ, Option.bind_some, bd2_some, Nat.add_zero, Nat.zero_add, if_true, if_false, Bool.false_eq_true, eq_self, hI_R, hJ_R, r']; try rfl, sf_rf⟩
      · have r' : f_X9_openBehind h 61 (nI l) (nI v) (nI q) (nI 0) = some (nI 0) := by
          rw [beq_eq_false_iff_ne.mpr m0] at r
          exact r
        exact ⟨h, by simp (disch := first | assumption | omega | decide | ((repeat first | apply lyI | apply lyJ | apply lywI | apply lywJ | apply csI | apply csJ | apply cswI | apply cswJ); assumption)) only [f_X9_settles_g, f_X9_settles_j15, SS, LI, ↓li_m1, nI_add, pk_mul, nn_sub, nn_m1, nn_div, nn_rem, nn_nz, nn_mod, nJ_l, lN_add, lN_mul, nn_tb1, nI_bt, nn_and, nn_or, nn_xor, nn_shr, nn_1shl, nn_31, il_p, il_n, it_p, it_n, ie_p, ie_n, ie_b, ie_b1, ie_m, ie_mm, it_m, it_m0, il_m0, bI_rZ, Option.bind_some, bd2_some, Nat.add_zero, Nat.zero_add, if_true, if_false, Bool.false_eq_true, eq_self, hI_R, hJ_R, r']; try rfl, sf_rf⟩
  · have on0 : opN A P Q S F v q gl ≠ 0 := fun e => hz (o2.mpr e)
    by_cases m0 : m = 0
    · subst m0
      have ok : okB A P Q S gl (byN A P Q S gl (askB bi) 0) F pu v q = false := by
        rw [okB_0]
        obtain ⟨a, a1, a2⟩ := tb_ex on0 ol
        rw [show anyB (fun a => bothB A P Q (anF S v q a F) gl) (2 * A 3) = true from anyB_iff.mpr ⟨a, a1, by rw [← bit a]; exact a2⟩]
        rfl
      rw [ok]
      have r' : f_X9_openBehind h 61 (nI l) (nI v) (nI q) (nI 1) = some (nI o) := r
      exact ⟨h, by simp (disch := first | assumption | omega | decide | ((repeat first | apply lyI | apply lyJ | apply lywI | apply lywJ | apply csI | apply csJ | apply cswI | apply cswJ); assumption)) only [f_X9_settles_g, f_X9_settles_j15, SS, LI, ↓li_m1, nI_add, pk_mul, nn_sub, nn_m1, nn_div, nn_rem, nn_nz, nn_mod, nJ_l, lN_add, lN_mul, nn_tb1, nI_bt, nn_and, nn_or, nn_xor, nn_shr, nn_1shl, nn_31, il_p, il_n, it_p, it_n, ie_p, ie_n, ie_b, ie_b1, ie_m, ie_mm, it_m, it_m0, il_m0, bI_rZ, Option.bind_some, bd2_some, Nat.add_zero, Nat.zero_add, if_true, if_false, Bool.false_eq_true, eq_self, hI_R, hJ_R, r']; try rfl, sf_rf⟩
    · obtain ⟨hl2, m3, fok⟩ : l < 2 ∧ m < 3 ∧ FstOK A P Q S gl bi c (l + 1) m fo := by
        rcases hfo with e | e
        · exact absurd e m0
        · exact e
      have bf : (m == 0) = false := beq_eq_false_iff_ne.mpr m0
      rw [bf] at r
      have oe := o3 bf
      have r' : f_X9_openBehind h 61 (nI l) (nI v) (nI q) (nI 0) = some (nI o) := r
      have bo : ∀ a, o.testBit a = bothB A P Q (anF S v q a F) gl := fun a => by rw [oe]; exact bit a
      let by_ : Nat → Bool := fun a => byN A P Q S gl (askB bi) m (anF S v q a F) (upB pu q)
      have e : ∃ e, f_X9_settles_l45 fo 61 (nI l) (nI v) (nI q) (nI (m + 1)) (nI pm) (nI o) (nI 0) h = some e ∧ ∃ g, SF h g l ∧ ((e = .inl g ∧ ∃ a, a < 2 * A 3 ∧ o.testBit a = true ∧ by_ a = false) ∨ (e = .inr g ∧ ∀ a, o.testBit a = true → by_ a = true)) := by
        refine whl0 (fun i (s : Int32 × aH) => ∃ g, s = (nI i, g) ∧ SF h g l ∧ ∀ a, a < i → o.testBit a = true → by_ a = true) _ 24 (by decide) ⟨h, rfl, sf_rf, fun a ha => absurd ha (by omega)⟩ ?_
        rintro i _ ⟨g, rfl, sg, hi0⟩ hi
        have lg := sg.1.lay hl
        have cs := cs_fr sg.1 hs
        have cg := cc_fr sg.1 (by decide) hs hc
        have sl : o >>> i < 2147483648 := shr_lt (by omega)
        rcases Nat.lt_or_ge i 24 with qi | qi
        · by_cases hs0 : o >>> i = 0
          · refine Or.inr ⟨.inr g, by simp (disch := first | assumption | omega | decide | ((repeat first | apply lyI | apply lyJ | apply lywI | apply lywJ | apply csI | apply csJ | apply cswI | apply cswJ); assumption)) only [f_X9_settles_b45, f_X9_settles_j102, SS, LI, ↓li_m1, nI_add, pk_mul, nn_sub, nn_m1, nn_div, nn_rem, nn_nz, nn_mod, nJ_l, lN_add, lN_mul, nn_tb1, nI_bt, nn_and, nn_or, nn_xor, nn_shr, nn_1shl, nn_31, il_p, il_n, it_p, it_n, ie_p, ie_n, ie_b, ie_b1, ie_m, ie_mm, it_m, it_m0, il_m0, bI_rZ, Option.bind_some, bd2_some, Nat.add_zero, Nat.zero_add, if_true, if_false, Bool.false_eq_true, eq_self, hI_R, hJ_R, hs0], g, sg, Or.inr ⟨rfl, fun a ha => ?_⟩⟩
            rcases Nat.lt_or_ge a i with u | u
            · exact hi0 a u ha
            · have : (o >>> i).testBit (a - i) = true := by
                rw [Nat.testBit_shiftRight, show i + (a - i) = a by omega]
                exact ha
              rw [hs0, Nat.zero_testBit] at this
              cases this
          · have nx : (o.testBit i = true → by_ i = true) → ∀ a, a < i + 1 → o.testBit a = true → by_ a = true := fun hh a ha hb => by
              rcases Nat.lt_or_ge a i with u | u
              · exact hi0 a u hb
              · obtain rfl : a = i := by omega
                exact hh hb
            rcases (Bool.eq_false_or_eq_true (o.testBit i)).symm with hb | hb
            · exact Or.inl ⟨(nI (i + 1), g), by simp (disch := first | assumption | omega | decide | ((repeat first | apply lyI | apply lyJ | apply lywI | apply lywJ | apply csI | apply csJ | apply cswI | apply cswJ); assumption)) only [f_X9_settles_b45, f_X9_settles_j102, SS, LI, ↓li_m1, nI_add, pk_mul, nn_sub, nn_m1, nn_div, nn_rem, nn_nz, nn_mod, nJ_l, lN_add, lN_mul, nn_tb1, nI_bt, nn_and, nn_or, nn_xor, nn_shr, nn_1shl, nn_31, il_p, il_n, it_p, it_n, ie_p, ie_n, ie_b, ie_b1, ie_m, ie_mm, it_m, it_m0, il_m0, bI_rZ, Option.bind_some, bd2_some, Nat.add_zero, Nat.zero_add, if_true, if_false, Bool.false_eq_true, eq_self, hI_R, hJ_R, hb, bI_f], qi, g, rfl, sg, nx (fun e => by rw [hb] at e; cases e)⟩
            · have i3 : i < 2 * A 3 := by
                rcases Nat.lt_or_ge i (2 * A 3) with u | u
                · exact u
                · rw [Nat.testBit_lt_two_pow (Nat.lt_of_lt_of_le o1 (Nat.pow_le_pow_right (by decide) u))] at hb
                  cases hb
              obtain ⟨g1, r1, s1, w1⟩ := k_desc cs cg hw lg (sf_r sg hf) hF (sf_wl b2 sg wl) hl2 hv hq qi
              have l1 := s1.1.lay lg
              have q12 : 2 ^ q < 2 ^ 12 := Nat.pow_lt_pow_right (by decide) (by omega)
              obtain ⟨g2, rr, r2, r3, s2⟩ := fok g1 (anF S v q i F) (pm ||| 2 ^ q) (upB pu q) l1 (cs_fr s1.1 cs) (cc_fr s1.1 (by decide) cs cg) (sf_r s1 (sf_r sg hf)) (anF_lt hF) w1 (sf_sq s1 (sf_sq sg sq)) (Nat.or_lt_two_pow (n := 12) hp q12) (fun x hx => by
                rw [Nat.testBit_or, hpu x hx, Nat.testBit_two_pow]
                unfold upB
                by_cases hxq : q = x
                · simp [hxq]
                · simp [hxq, Ne.symm hxq])
              have s12 : SF h g2 l := sf_tr sg (sf_tr s1 (sf_mono s2 (by omega)))
              rcases (Bool.eq_false_or_eq_true (by_ i)).symm with hby | hby
              · have rm := r3.mpr hby
                exact Or.inr ⟨.inl g2, by simp (disch := first | assumption | omega | decide | ((repeat first | apply lyI | apply lyJ | apply lywI | apply lywJ | apply csI | apply csJ | apply cswI | apply cswJ); assumption)) only [f_X9_settles_b45, f_X9_settles_j102, SS, LI, ↓li_m1, nI_add, pk_mul, nn_sub, nn_m1, nn_div, nn_rem, nn_nz, nn_mod, nJ_l, lN_add, lN_mul, nn_tb1, nI_bt, nn_and, nn_or, nn_xor, nn_shr, nn_1shl, nn_31, il_p, il_n, it_p, it_n, ie_p, ie_n, ie_b, ie_b1, ie_m, ie_mm, it_m, it_m0, il_m0, bI_rZ, Option.bind_some, bd2_some, Nat.add_zero, Nat.zero_add, if_true, if_false, Bool.false_eq_true, eq_self, hI_R, hJ_R, hb, bI_t, r1, r2, rm, Nat.add_sub_cancel], g2, s12, Or.inl ⟨rfl, i, i3, hb, hby⟩⟩
              · have rm : ¬ rr = m1 := fun e => by
                  have := r3.mp e
                  rw [show byN A P Q S gl (askB bi) m (anF S v q i F) (upB pu q) = true from hby] at this
                  cases this
                exact Or.inl ⟨(nI (i + 1), g2), by simp (disch := first | assumption | omega | decide | ((repeat first | apply lyI | apply lyJ | apply lywI | apply lywJ | apply csI | apply csJ | apply cswI | apply cswJ); assumption)) only [f_X9_settles_b45, f_X9_settles_j102, SS, LI, ↓li_m1, nI_add, pk_mul, nn_sub, nn_m1, nn_div, nn_rem, nn_nz, nn_mod, nJ_l, lN_add, lN_mul, nn_tb1, nI_bt, nn_and, nn_or, nn_xor, nn_shr, nn_1shl, nn_31, il_p, il_n, it_p, it_n, ie_p, ie_n, ie_b, ie_b1, ie_m, ie_mm, it_m, it_m0, il_m0, bI_rZ, Option.bind_some, bd2_some, Nat.add_zero, Nat.zero_add, if_true, if_false, Bool.false_eq_true, eq_self, hI_R, hJ_R, hb, bI_t, r1, r2, if_neg rm, Nat.add_sub_cancel], qi, g2, rfl, s12, nx (fun _ => hby)⟩
        · obtain rfl : i = 24 := by omega
          refine Or.inr ⟨.inr g, by simp (disch := first | assumption | omega | decide | ((repeat first | apply lyI | apply lyJ | apply lywI | apply lywJ | apply csI | apply csJ | apply cswI | apply cswJ); assumption)) only [f_X9_settles_b45, SS, LI, ↓li_m1, nI_add, pk_mul, nn_sub, nn_m1, nn_div, nn_rem, nn_nz, nn_mod, nJ_l, lN_add, lN_mul, nn_tb1, nI_bt, nn_and, nn_or, nn_xor, nn_shr, nn_1shl, nn_31, il_p, il_n, it_p, it_n, ie_p, ie_n, ie_b, ie_b1, ie_m, ie_mm, it_m, it_m0, il_m0, bI_rZ, Option.bind_some, bd2_some, Nat.add_zero, Nat.zero_add, if_true, if_false, Bool.false_eq_true, eq_self, hI_R, hJ_R], g, sg, Or.inr ⟨rfl, fun a ha => ?_⟩⟩
          rcases Nat.lt_or_ge a 24 with u | u
          · exact hi0 a u ha
          · rw [Nat.testBit_lt_two_pow (Nat.lt_of_lt_of_le o1 (Nat.pow_le_pow_right (by decide) (by omega)))] at ha
            cases ha
      obtain ⟨_, e1, g, sg, ⟨rfl, a, a1, a2, a3⟩ | ⟨rfl, hall⟩⟩ := e
      · have ok : okB A P Q S gl (byN A P Q S gl (askB bi) m) F pu v q = false := by
          rw [← Bool.not_eq_true]
          unfold okB
          rw [allB_iff]
          intro hh
          have := hh a a1
          rw [← bo a, a2, show byN A P Q S gl (askB bi) m (anF S v q a F) (upB pu q) = false from a3] at this
          cases this
        rw [ok]
        exact ⟨g, by simp (disch := first | assumption | omega | decide | ((repeat first | apply lyI | apply lyJ | apply lywI | apply lywJ | apply csI | apply csJ | apply cswI | apply cswJ); assumption)) only [f_X9_settles_g, f_X9_settles_j15, SS, LI, ↓li_m1, nI_add, pk_mul, nn_sub, nn_m1, nn_div, nn_rem, nn_nz, nn_mod, nJ_l, lN_add, lN_mul, nn_tb1, nI_bt, nn_and, nn_or, nn_xor, nn_shr, nn_1shl, nn_31, il_p, il_n, it_p, it_n, ie_p, ie_n, ie_b, ie_b1, ie_m, ie_mm, it_m, it_m0, il_m0, bI_rZ, Option.bind_some, bd2_some, Nat.add_zero, Nat.zero_add, if_true, if_false, Bool.false_eq_true, eq_self, hI_R, hJ_R, r', e1]; try rfl, sg⟩
      · have ok : okB A P Q S gl (byN A P Q S gl (askB bi) m) F pu v q = true := allB_iff.mpr (fun a _ => by
          rw [← bo a]
          rcases (Bool.eq_false_or_eq_true (o.testBit a)).symm with hb | hb
          · rw [hb]
            rfl
          · rw [show byN A P Q S gl (askB bi) m (anF S v q a F) (upB pu q) = true from hall a hb, Bool.or_true])
        rw [ok]
        exact ⟨g, by simp (disch := first | assumption | omega | decide | ((repeat first | apply lyI | apply lyJ | apply lywI | apply lywJ | apply csI | apply csJ | apply cswI | apply cswJ); assumption)) only [f_X9_settles_g, f_X9_settles_j15, SS, LI, ↓li_m1, nI_add, pk_mul, nn_sub, nn_m1, nn_div, nn_rem, nn_nz, nn_mod, nJ_l, lN_add, lN_mul, nn_tb1, nI_bt, nn_and, nn_or, nn_xor, nn_shr, nn_1shl, nn_31, il_p, il_n, it_p, it_n, ie_p, ie_n, ie_b, ie_b1, ie_m, ie_mm, it_m, it_m0, il_m0, bI_rZ, Option.bind_some, bd2_some, Nat.add_zero, Nat.zero_add, if_true, if_false, Bool.false_eq_true, eq_self, hI_R, hJ_R, r', e1]; try rfl, sg⟩
theorem k_fst {A : Nat → Nat} {P : Nat → Bool} {Q : Nat → Nat → Bool} {S : Nat → Nat → Nat → Nat → Nat} {gl c l m : Nat} {bi : Int32} (hw : WF A) {st : aH → Nat → Int32 → Int32 → Int32 → Int32 → Int32 → Option (Int32 × aH)} (so : SetOK A P Q S gl bi c l m st) : FstOK A P Q S gl bi c l (m + 1) (f_X9_firstOf_g st) := by
  intro h F pm pu hl hs hc hf hF wl sq hp hpu
  obtain ⟨h', r, sf⟩ := k_first hs hc hw hl hf hF wl sq hp hpu so
  refine ⟨h', _, r, ?_, sf⟩
  rw [← ff_by]
  cases hx : ffO A (askB bi) (fun v q => !pu q && okB A P Q S gl (byN A P Q S gl (askB bi) m) F pu v q) with
  | none => simp [ffI]
  | some x =>
    obtain ⟨v, q⟩ := x
    have b := ff_b hx
    obtain ⟨b0, b1, b2l, b2, b3, b4⟩ := wf_b hw
    simp only [ffI, Option.isSome_some, reduceCtorEq, iff_false]
    exact fun e => nI_pos (n := v * 12 + q) (by omega) (by rw [e]; decide)
theorem k_rset {A : Nat → Nat} {P : Nat → Bool} {Q : Nat → Nat → Bool} {S : Nat → Nat → Nat → Nat → Nat} {gl c : Nat} {bi : Int32} (hw : WF A) (hg : gl < A 3) : ∀ m l n, m < n → l + m < 3 → SetOK A P Q S gl bi c l m (f_X9_rSet n)
  | 0, l, n + 1, _, hl => k_sett hw hg (by omega) (Or.inl rfl)
  | m + 1, l, n + 1, hn, hl => k_sett hw hg (by omega) (Or.inr ⟨by omega, by omega, k_fst hw (k_rset hw hg m (l + 1) n (by omega) (by omega))⟩)
/-- the search begins at what is left -/
theorem k_begin {h : aH} {c : Nat} (hs : CS h c) {A : Nat → Nat} {P : Nat → Bool} {Q : Nat → Nat → Bool} {S : Nat → Nat → Nat → Nat → Nat} (hc : CC h c A P Q S) (hw : WF A) (hl : LAY h) (hf : h.2.2.2 52 4 = some c) {n d : Nat} {M : Nat → Nat → Nat} (hm : MN h 53 n d M) (mw : MW A n d M) (hr : HR h 52 A P S M n) {gl : Nat} {bi : Int32} (hg : gl < A 3) : ∃ h', f_X9_begin h 61 (nI gl) bi = some h' ∧ FR h h' [61, 62, 63, 64] [] [] [] ∧ WL h' A P 0 (FT A P S M n) ∧ SQ h' gl bi := by
  obtain ⟨b0, b1, b2l, b2, b3, b4⟩ := wf_b hw
  obtain ⟨mn, md, mk, mi⟩ := mw
  have hv : h.2.1 52 5 = nI (cntB (lvB A P S M n) (A 2)) := hr.1
  have cle := cntB_le (lvB A P S M n) (A 2)
  have hal : ∀ j, j < cntB (lvB A P S M n) (A 2) → h.2.1 59 j = nI (alN (lvB A P S M n) (A 2) j) ∧ alN (lvB A P S M n) (A 2) j < A 2 ∧ lvB A P S M n (alN (lvB A P S M n) (A 2) j) = true := fun j hj => hr_al hr hj
  have aln := al_N (lvB A P S M n) (A 2)
  have em := hc.1.2.2.2.2.2.2
  have h5 : ∀ x, (hI (hI (hI h 61 7 (nI gl)) 61 8 bi) 64 0 x).2.1 52 5 = nI (cntB (lvB A P S M n) (A 2)) := fun _ => hv
  have h5' : (hI (hI h 61 7 (nI gl)) 61 8 bi).2.1 52 5 = nI (cntB (lvB A P S M n) (A 2)) := hv
  have f1 : FR h (hI (hI (hI h 61 7 (nI gl)) 61 8 bi) 64 0 (nI (cntB (lvB A P S M n) (A 2)))) [61, 62, 63, 64] [] [] [] := ((FR.hI (by decide) (by decide) (by decide)).tr (FR.hI (by decide) (by decide) (by decide))).tr (FR.hI (by decide) (by decide) (by decide))
  have e : ∃ h', f_X9_begin_l25 61 (nI 0) (hI (hI (hI h 61 7 (nI gl)) 61 8 bi) 64 0 (nI (cntB (lvB A P S M n) (A 2)))) = some h' ∧ FR h h' [61, 62, 63, 64] [] [] [] ∧ h'.2.1 64 0 = nI (cntB (lvB A P S M n) (A 2)) ∧ SQ h' gl bi ∧ ∀ j, j < cntB (lvB A P S M n) (A 2) → h'.2.1 62 j = nI (alN (lvB A P S M n) (A 2) j) ∧ h'.2.1 63 j = nI (pk4 (k4 A (FT A P S M n) (alN (lvB A P S M n) (A 2) j))) := by
    refine forI (fun i (s : Int32 × aH) => ∃ g, s = (nI i, g) ∧ FR h g [61, 62, 63, 64] [] [] [] ∧ g.2.1 64 0 = nI (cntB (lvB A P S M n) (A 2)) ∧ SQ g gl bi ∧ ∀ j, j < i → g.2.1 62 j = nI (alN (lvB A P S M n) (A 2) j) ∧ g.2.1 63 j = nI (pk4 (k4 A (FT A P S M n) (alN (lvB A P S M n) (A 2) j)))) _ (cntB (lvB A P S M n) (A 2)) (by omega) ⟨_, rfl, f1, rfl, ⟨rfl, rfl⟩, fun j hj => absurd hj (by omega)⟩ ?_ ?_
    · rintro i _ hi ⟨g, rfl, fg, i1, i2, i3⟩
      have lg := fg.lay hl
      have sg := cs_fr fg hs
      have cg := cc_fr fg (by decide) hs hc
      have hfg : g.2.2.2 52 4 = some c := by rw [fg.2.1]; exact hf
      have emg := cg.1.2.2.2.2.2.2
      obtain ⟨a1, a2, a3⟩ := hal i hi
      have ap := lv_P a3
      have ga : g.2.1 59 i = nI (alN (lvB A P S M n) (A 2) i) := by rw [fg.I 59 (by decide) (by decide) (by decide)]; exact a1
      have gv : g.2.1 52 5 = nI (cntB (lvB A P S M n) (A 2)) := by rw [fg.I 52 (by decide) (by decide) (by decide)]; exact hv
      have gf : g.2.1 58 (alN (lvB A P S M n) (A 2) i) = nI (pk4 (fun u => fcN S M (alN (lvB A P S M n) (A 2) i) u n)) := by rw [fg.I 58 (by decide) (by decide) (by decide)]; exact hr.2.2.1 _ a2 ap
      have ga' : ∀ x, (hI g 62 i x).2.1 59 i = nI (alN (lvB A P S M n) (A 2) i) := fun _ => ga
      have gf' : ∀ x, (hI g 62 i x).2.1 58 (alN (lvB A P S M n) (A 2) i) = nI (pk4 (fun u => fcN S M (alN (lvB A P S M n) (A 2) i) u n)) := fun _ => gf
      have em' : ∀ x, (hI g 62 i x).2.1 c 18 = nI (pk4 (myN A)) := fun x => by
        rw [rI_hI, if_neg (fun e => by have := hs.1; omega)]
        exact emg
      have ea := pk4_and (f := fun u => fcN S M (alN (lvB A P S M n) (A 2) i) u n) (g := myN A) (fun u _ => fcN_lt _ _ _ _ _) (fun u _ => myN_lt u)
      have eb : pk4 (fun u => fcN S M (alN (lvB A P S M n) (A 2) i) u n &&& myN A u) = pk4 (k4 A (FT A P S M n) (alN (lvB A P S M n) (A 2) i)) := pk4_congr (fun u hu => by
        unfold k4 myN
        by_cases hx : u < A 4
        · rw [if_pos hx, if_pos hx, ft_fc ap]
        · rw [if_neg hx, if_neg hx, and15, Nat.mod_eq_of_lt (fcN_lt _ _ _ _ _)]
          have : ∀ m, m ≤ n → fcN S M (alN (lvB A P S M n) (A 2) i) u m = 15 := fun m hm => by
            induction m with
            | zero => rfl
            | succ m ih =>
              show (if M m 0 = u then _ else _) = 15
              have := mk m (by omega)
              rw [if_neg (by omega)]
              exact ih (by omega)
          exact this n (Nat.le_refl n))
      rw [eb] at ea
      refine ⟨(nI (i + 1), hI (hI g 62 i (nI (alN (lvB A P S M n) (A 2) i))) 63 i (nI (pk4 (k4 A (FT A P S M n) (alN (lvB A P S M n) (A 2) i))))), by simp (disch := first | assumption | omega | decide | ((repeat first | apply lyI | apply lyJ | apply lywI | apply lywJ | apply csI | apply csJ | apply cswI | apply cswJ); assumption)) only [f_X9_begin_b25, SS, SH52, SC, LI, ↓li_m1, nI_add, pk_mul, nn_sub, nn_m1, nn_div, nn_rem, nn_nz, nn_mod, nJ_l, lN_add, lN_mul, nn_tb1, nI_bt, nn_and, nn_or, nn_xor, nn_shr, nn_1shl, nn_31, il_p, il_n, it_p, it_n, ie_p, ie_n, ie_b, ie_b1, ie_m, ie_mm, it_m, it_m0, il_m0, bI_rZ, Option.bind_some, bd2_some, Nat.add_zero, Nat.zero_add, if_true, if_false, Bool.false_eq_true, eq_self, hI_R, hJ_R, gv, ga, ga', gf', hfg, em', ea], _, rfl, (fg.tr (FR.hI (by decide) (by decide) (by decide))).tr (FR.hI (by decide) (by decide) (by decide)), i1, i2, fun j hj => ?_⟩
      by_cases hx : j = i
      · subst hx
        refine ⟨?_, ?_⟩
        · show (hI g 62 _ _).2.1 62 _ = _
          rw [rI_hI, if_pos ⟨rfl, rfl⟩]
        · rw [rI_hI, if_pos ⟨rfl, rfl⟩]
      · obtain ⟨z1, z2⟩ := i3 j (by omega)
        refine ⟨?_, ?_⟩
        · show (hI g 62 _ _).2.1 62 _ = _
          rw [rI_hI, if_neg (fun e => hx e.2)]
          exact z1
        · rw [rI_hI, if_neg (fun e => hx e.2)]
          exact z2
    · rintro _ ⟨g, rfl, fg, i1, i2, i3⟩
      have lg := fg.lay hl
      have gv : g.2.1 52 5 = nI (cntB (lvB A P S M n) (A 2)) := by rw [fg.I 52 (by decide) (by decide) (by decide)]; exact hv
      exact ⟨g, by simp (disch := first | assumption | omega | decide | ((repeat first | apply lyI | apply lyJ | apply lywI | apply lywJ | apply csI | apply csJ | apply cswI | apply cswJ); assumption)) only [f_X9_begin_b25, SS, SH52, LI, ↓li_m1, nI_add, pk_mul, nn_sub, nn_m1, nn_div, nn_rem, nn_nz, nn_mod, nJ_l, lN_add, lN_mul, nn_tb1, nI_bt, nn_and, nn_or, nn_xor, nn_shr, nn_1shl, nn_31, il_p, il_n, it_p, it_n, ie_p, ie_n, ie_b, ie_b1, ie_m, ie_mm, it_m, it_m0, il_m0, bI_rZ, Option.bind_some, bd2_some, Nat.add_zero, Nat.zero_add, if_true, if_false, Bool.false_eq_true, eq_self, hI_R, hJ_R, gv], fg, i1, i2, i3⟩
  obtain ⟨h', e1, f2, i1, i2, i3⟩ := e
  refine ⟨h', by simp (disch := first | assumption | omega | decide | ((repeat first | apply lyI | apply lyJ | apply lywI | apply lywJ | apply csI | apply csJ | apply cswI | apply cswJ); assumption)) only [f_X9_begin, SS, SH52, LI, ↓li_m1, nI_add, pk_mul, nn_sub, nn_m1, nn_div, nn_rem, nn_nz, nn_mod, nJ_l, lN_add, lN_mul, nn_tb1, nI_bt, nn_and, nn_or, nn_xor, nn_shr, nn_1shl, nn_31, il_p, il_n, it_p, it_n, ie_p, ie_n, ie_b, ie_b1, ie_m, ie_mm, it_m, it_m0, il_m0, bI_rZ, Option.bind_some, bd2_some, Nat.add_zero, Nat.zero_add, if_true, if_false, Bool.false_eq_true, eq_self, hI_R, hJ_R, h5', h5, e1], f2, ?_, i2⟩
  unfold WL
  rw [lf_lv]
  exact ⟨i1, fun j hj => by rw [Nat.mul_zero, Nat.zero_add]; exact i3 j hj⟩
