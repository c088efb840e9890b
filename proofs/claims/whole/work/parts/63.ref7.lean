/-! ===== the reference: the shortest road ===== -/
def bothB (A : Nat → Nat) (P : Nat → Bool) (Q : Nat → Nat → Bool) (F : Nat → Nat → Nat) (g : Nat) : Bool := someB A P F (Q g) (A 2) && someB A P F (fun w => !Q g w) (A 2)
theorem both_0 {A : Nat → Nat} {P : Nat → Bool} {Q : Nat → Nat → Bool} {F : Nat → Nat → Nat} {g : Nat} (h0 : cntB (lfB A P F) (A 2) = 0) : bothB A P Q F g = false := by
  have : someB A P F (Q g) (A 2) = false := anyB_f.mpr (fun i hi => by rw [cntB_0.mp h0 i hi, Bool.false_and])
  unfold bothB
  rw [this, Bool.false_and]
theorem both_s {A : Nat → Nat} {P : Nat → Bool} {Q : Nat → Nat → Bool} {F : Nat → Nat → Nat} {g : Nat} (h0 : cntB (lfB A P F) (A 2) ≠ 0) : (sureI (someB A P F (Q g) (A 2)) (someB A P F (fun w => !Q g w) (A 2)) = m1) ↔ bothB A P Q F g = true := by
  unfold bothB sureI
  cases h1 : someB A P F (Q g) (A 2) <;> cases h2 : someB A P F (fun w => !Q g w) (A 2)
  · refine absurd (cntB_0.mpr (fun i hi => ?_)) h0
    have k1 := anyB_f.mp h1 i hi
    have k2 := anyB_f.mp h2 i hi
    cases hl : lfB A P F i
    · rfl
    · rw [hl] at k1 k2
      simp at k1 k2
      rw [k1] at k2
      cases k2
  · simp [show ¬ bI false = m1 from by decide]
  · simp [show ¬ bI true = m1 from by decide]
  · simp
def upB (p : Nat → Bool) (q : Nat) : Nat → Bool := fun x => p x || x == q
def okB (A : Nat → Nat) (P : Nat → Bool) (Q : Nat → Nat → Bool) (S : Nat → Nat → Nat → Nat → Nat) (g : Nat) (by_ : (Nat → Nat → Nat) → (Nat → Bool) → Bool) (F : Nat → Nat → Nat) (pu : Nat → Bool) (v q : Nat) : Bool := allB (fun a => !bothB A P Q (anF S v q a F) g || by_ (anF S v q a F) (upB pu q)) (2 * A 3)
def byN (A : Nat → Nat) (P : Nat → Bool) (Q : Nat → Nat → Bool) (S : Nat → Nat → Nat → Nat → Nat) (g : Nat) (ask : Nat → Bool) : Nat → (Nat → Nat → Nat) → (Nat → Bool) → Bool
  | 0 => fun _ _ => false
  | m + 1 => fun F pu => anyB (fun v => anyB (fun q => ask v && !pu q && okB A P Q S g (byN A P Q S g ask m) F pu v q) (A 3)) (A 4)
def askB (bi : Int32) (v : Nat) : Bool := decide (bi = m1) || decide (bi = nI v)
theorem r_isAsked {h : aH} {v : Nat} {bi : Int32} : f_X12_isAsked h 113 (nI v) bi = some (bI (askB bi v)) := by
  unfold f_X12_isAsked askB
  by_cases h1 : bi = m1
  · subst h1
    rfl
  · rw [if_neg (show ¬ bi = -1 from h1)]
    by_cases h2 : bi = nI v
    · simp [h2, bI]
      rfl
    · simp [h1, h2, bI]
      rfl
/-- what the search may change, at a level -/
def SL (h g : aH) (L : Nat) (p : Nat → Bool) : Prop := FR h g [129, 130] [] [] [] ∧ LV h g L ∧ PU g p
theorem sl_rf {h : aH} {L : Nat} {p : Nat → Bool} (hp : PU h p) : SL h h L p := ⟨FR.rf, fun _ _ => rfl, hp⟩
theorem sl_tr {h g k : aH} {L : Nat} {p r : Nat → Bool} (a : SL h g L p) (b : SL g k L r) : SL h k L r := ⟨a.1.tr b.1, lv_tr a.2.1 b.2.1, b.2.2⟩
theorem sl_mono {h g : aH} {L L' : Nat} {p : Nat → Bool} (a : SL h g L p) (hL : L' ≤ L) : SL h g L' p := ⟨a.1, lv_mono a.2.1 hL, a.2.2⟩
theorem sl_ans {h g : aH} {L : Nat} {p : Nat → Bool} (hp : PU h p) (f : FR h g [129] [] [] []) (v : LV h g L) : SL h g L p := ⟨f.mono (by decide) (by decide) (by decide) (by decide), v, pu_fr f (by decide) hp⟩
theorem okB_0 {A : Nat → Nat} {P : Nat → Bool} {Q : Nat → Nat → Bool} {S : Nat → Nat → Nat → Nat → Nat} {g v q : Nat} {F : Nat → Nat → Nat} {pu ask : Nat → Bool} : okB A P Q S g (byN A P Q S g ask 0) F pu v q = !anyB (fun a => bothB A P Q (anF S v q a F) g) (2 * A 3) := by
  unfold okB
  rw [Bool.eq_iff_iff, allB_iff, Bool.not_eq_true', anyB_f]
  simp [byN]
theorem r_oneIs {h : aH} (hl : LAY h) {A : Nat → Nat} {P : Nat → Bool} {Q : Nat → Nat → Bool} (hc : CM h A P Q) (hw : WF A) {S : Nat → Nat → Nat → Nat → Nat} (hs : SY h A P S) {F : Nat → Nat → Nat} {pu : Nat → Bool} {L gl v q : Nat} (hb : FB h A L F) (hF : ∀ v w, F v w < 16) (hP : ∀ v w, F v w ≠ 0 → P w = true) (hpu : PU h pu) (hL : L < 3) (hg : gl < A 3) (hv : v < A 4) (hq : q < A 3) (ask : Nat → Bool) : ∃ h', f_X12_oneIs h 113 (nI L) (nI gl) (nI v) (nI q) = some (bI (okB A P Q S gl (byN A P Q S gl ask 0) F pu v q), h') ∧ SL h h' L pu := by
  obtain ⟨b0, b1, b2l, b2, b3, b4⟩ := wf_b hw
  obtain ⟨c0, c1, c2, c3, c4, cA⟩ := cm_e hc
  rw [okB_0]
  have e : ∃ e, f_X12_oneIs_l3 113 (nI L) (nI gl) (nI v) (nI q) (nI 0) h = some e ∧ ∃ g, SL h g L pu ∧ ((e = .inl g ∧ anyB (fun a => bothB A P Q (anF S v q a F) gl) (2 * A 3) = true) ∨ (e = .inr g ∧ anyB (fun a => bothB A P Q (anF S v q a F) gl) (2 * A 3) = false)) := by
    refine whl0 (fun i (s : Int32 × aH) => ∃ g, s = (nI i, g) ∧ SL h g L pu ∧ ∀ a, a < i → bothB A P Q (anF S v q a F) gl = false) _ (2 * A 3) (by omega) ⟨h, rfl, sl_rf hpu, fun a ha => absurd ha (by omega)⟩ ?_
    rintro i _ ⟨g, rfl, sg, hi0⟩ hi
    have lg := sg.1.lay hl
    have cg := cm_fr sg.1 (by decide) (by decide) hc
    obtain ⟨c0, c1, c2, c3, c4, cA⟩ := cm_e cg
    rcases Nat.lt_or_ge i (2 * A 3) with qi | qi
    · obtain ⟨g', e1, f1, v1, b1'⟩ := r_answered lg cg hw (sy_fr sg.1 (by decide) hs) (lv_fb sg.2.1 hw hb) hF hP hL hv hq (a := i) (by omega)
      have lg' := f1.lay lg
      have cle := cntB_le (lfB A P (anF S v q i F)) (A 2)
      have sg' := sl_tr sg (sl_ans sg.2.2 f1 v1)
      have nx : bothB A P Q (anF S v q i F) gl = false → ∀ a, a < i + 1 → bothB A P Q (anF S v q a F) gl = false := fun hh a ha => by
        rcases Nat.lt_or_ge a i with u | u
        · exact hi0 a u
        · rw [show a = i by omega, hh]
      by_cases hz : cntB (lfB A P (anF S v q i F)) (A 2) = 0
      · exact Or.inl ⟨_, by simp (disch := first | assumption | omega | decide) only [f_X12_oneIs_b3, f_X12_oneIs_j43, SM, LI, ↓li_m1, nI_add, pk_mul, nn_sub, nn_m1, nn_div, nn_rem, nn_nz, nn_mod, nJ_l, lN_add, lN_mul, nn_tb1, nI_bt, nn_and, nn_or, nn_xor, nn_shr, nn_1shl, nn_31, il_p, il_n, it_p, it_n, ie_p, ie_n, ie_b, ie_b1, ie_m, ie_mm, it_m, it_m0, il_m0, bI_rZ, Option.bind_some, bd2_some, Nat.add_zero, Nat.zero_add, if_true, if_false, Bool.false_eq_true, eq_self, c3, e1]; try rfl, qi, g', rfl, sg', nx (both_0 hz)⟩
      · have r := r_sureAt lg' (cm_fr f1 (by decide) (by decide) cg) hw b1' (anF_lt hF) (by omega) hg
        cases hbo : bothB A P Q (anF S v q i F) gl
        · have hne : ¬ sureI (someB A P (anF S v q i F) (Q gl) (A 2)) (someB A P (anF S v q i F) (fun w => !Q gl w) (A 2)) = m1 := fun e => by
            rw [both_s hz, hbo] at e
            cases e
          exact Or.inl ⟨_, by simp (disch := first | assumption | omega | decide) only [f_X12_oneIs_b3, f_X12_oneIs_j43, SM, LI, ↓li_m1, nI_add, pk_mul, nn_sub, nn_m1, nn_div, nn_rem, nn_nz, nn_mod, nJ_l, lN_add, lN_mul, nn_tb1, nI_bt, nn_and, nn_or, nn_xor, nn_shr, nn_1shl, nn_31, il_p, il_n, it_p, it_n, ie_p, ie_n, ie_b, ie_b1, ie_m, ie_mm, it_m, it_m0, il_m0, bI_rZ, Option.bind_some, bd2_some, Nat.add_zero, Nat.zero_add, if_true, if_false, Bool.false_eq_true, eq_self, c3, e1, r, if_neg hne]; try rfl, qi, g', rfl, sg', nx hbo⟩
        · have he := (both_s hz).mpr hbo
          exact Or.inr ⟨_, by simp (disch := first | assumption | omega | decide) only [f_X12_oneIs_b3, f_X12_oneIs_j43, SM, LI, ↓li_m1, nI_add, pk_mul, nn_sub, nn_m1, nn_div, nn_rem, nn_nz, nn_mod, nJ_l, lN_add, lN_mul, nn_tb1, nI_bt, nn_and, nn_or, nn_xor, nn_shr, nn_1shl, nn_31, il_p, il_n, it_p, it_n, ie_p, ie_n, ie_b, ie_b1, ie_m, ie_mm, it_m, it_m0, il_m0, bI_rZ, Option.bind_some, bd2_some, Nat.add_zero, Nat.zero_add, if_true, if_false, Bool.false_eq_true, eq_self, c3, e1, r, he]; try rfl, g', sg', Or.inl ⟨rfl, anyB_iff.mpr ⟨i, qi, hbo⟩⟩⟩
    · obtain rfl : i = 2 * A 3 := by omega
      exact Or.inr ⟨_, by simp (disch := first | assumption | omega | decide) only [f_X12_oneIs_b3, f_X12_oneIs_j43, SM, LI, ↓li_m1, nI_add, pk_mul, nn_sub, nn_m1, nn_div, nn_rem, nn_nz, nn_mod, nJ_l, lN_add, lN_mul, nn_tb1, nI_bt, nn_and, nn_or, nn_xor, nn_shr, nn_1shl, nn_31, il_p, il_n, it_p, it_n, ie_p, ie_n, ie_b, ie_b1, ie_m, ie_mm, it_m, it_m0, il_m0, bI_rZ, Option.bind_some, bd2_some, Nat.add_zero, Nat.zero_add, if_true, if_false, Bool.false_eq_true, eq_self, c3]; try rfl, g, sg, Or.inr ⟨rfl, anyB_f.mpr hi0⟩⟩
  obtain ⟨_, e1, g, sg, ⟨rfl, hx⟩ | ⟨rfl, hx⟩⟩ := e
  · rw [hx]
    exact ⟨g, by simp (disch := first | assumption | omega | decide) only [f_X12_oneIs, SM, LI, ↓li_m1, nI_add, pk_mul, nn_sub, nn_m1, nn_div, nn_rem, nn_nz, nn_mod, nJ_l, lN_add, lN_mul, nn_tb1, nI_bt, nn_and, nn_or, nn_xor, nn_shr, nn_1shl, nn_31, il_p, il_n, it_p, it_n, ie_p, ie_n, ie_b, ie_b1, ie_m, ie_mm, it_m, it_m0, il_m0, bI_rZ, Option.bind_some, bd2_some, Nat.add_zero, Nat.zero_add, if_true, if_false, Bool.false_eq_true, eq_self, e1]; try rfl, sg⟩
  · rw [hx]
    exact ⟨g, by simp (disch := first | assumption | omega | decide) only [f_X12_oneIs, SM, LI, ↓li_m1, nI_add, pk_mul, nn_sub, nn_m1, nn_div, nn_rem, nn_nz, nn_mod, nJ_l, lN_add, lN_mul, nn_tb1, nI_bt, nn_and, nn_or, nn_xor, nn_shr, nn_1shl, nn_31, il_p, il_n, it_p, it_n, ie_p, ie_n, ie_b, ie_b1, ie_m, ie_mm, it_m, it_m0, il_m0, bI_rZ, Option.bind_some, bd2_some, Nat.add_zero, Nat.zero_add, if_true, if_false, Bool.false_eq_true, eq_self, e1]; try rfl, sg⟩
theorem r_byOne {h : aH} (hl : LAY h) {A : Nat → Nat} {P : Nat → Bool} {Q : Nat → Nat → Bool} (hc : CM h A P Q) (hw : WF A) {S : Nat → Nat → Nat → Nat → Nat} (hs : SY h A P S) {F : Nat → Nat → Nat} {pu : Nat → Bool} {L gl m : Nat} {bi : Int32} (hb : FB h A L F) (hpu : PU h pu) (is : ∀ g v q, SL h g L pu → v < A 4 → q < A 3 → pu q = false → ∃ g', f_X12_oneIs g 113 (nI L) (nI gl) (nI v) (nI q) = some (bI (okB A P Q S gl (byN A P Q S gl (askB bi) m) F pu v q), g') ∧ SL g g' L pu) : ∃ h', f_X12_byOne h 113 (nI L) (nI gl) bi = some (bI (byN A P Q S gl (askB bi) (m + 1) F pu), h') ∧ SL h h' L pu := by
  obtain ⟨b0, b1, b2l, b2, b3, b4⟩ := wf_b hw
  obtain ⟨c0, c1, c2, c3, c4, cA⟩ := cm_e hc
  have e1 : ∀ g v, SL h g L pu → v < A 4 → ∃ e, f_X12_byOne_l17 113 (nI L) (nI gl) bi (nI v) (nI 0) g = some e ∧ ∃ g', SL h g' L pu ∧ ((e = .inl g' ∧ anyB (fun q => askB bi v && !pu q && okB A P Q S gl (byN A P Q S gl (askB bi) m) F pu v q) (A 3) = true) ∨ (e = .inr g' ∧ anyB (fun q => askB bi v && !pu q && okB A P Q S gl (byN A P Q S gl (askB bi) m) F pu v q) (A 3) = false)) := fun g0 v sg0 hv => by
    refine whl0 (fun i (s : Int32 × aH) => ∃ g, s = (nI i, g) ∧ SL h g L pu ∧ ∀ q, q < i → (askB bi v && !pu q && okB A P Q S gl (byN A P Q S gl (askB bi) m) F pu v q) = false) _ (A 3) (by omega) ⟨g0, rfl, sg0, fun a ha => absurd ha (by omega)⟩ ?_
    rintro i _ ⟨g, rfl, sg, hi0⟩ hi
    have lg := sg.1.lay hl
    have cg := cm_fr sg.1 (by decide) (by decide) hc
    obtain ⟨c0, c1, c2, c3, c4, cA⟩ := cm_e cg
    have ra := r_isAsked (h := g) (v := v) (bi := bi)
    rcases Nat.lt_or_ge i (A 3) with qi | qi
    · have ep := sg.2.2 i (by omega)
      have nx : (askB bi v && !pu i && okB A P Q S gl (byN A P Q S gl (askB bi) m) F pu v i) = false → ∀ q, q < i + 1 → (askB bi v && !pu q && okB A P Q S gl (byN A P Q S gl (askB bi) m) F pu v q) = false := fun hh a ha => by
        rcases Nat.lt_or_ge a i with u | u
        · exact hi0 a u
        · rw [show a = i by omega, hh]
      rcases (Bool.eq_false_or_eq_true (askB bi v)).symm with hak | hak
      · rw [hak] at ra
        exact Or.inl ⟨_, by simp (disch := first | assumption | omega | decide) only [f_X12_byOne_b17, f_X12_byOne_j63, SM, LI, ↓li_m1, nI_add, pk_mul, nn_sub, nn_m1, nn_div, nn_rem, nn_nz, nn_mod, nJ_l, lN_add, lN_mul, nn_tb1, nI_bt, nn_and, nn_or, nn_xor, nn_shr, nn_1shl, nn_31, il_p, il_n, it_p, it_n, ie_p, ie_n, ie_b, ie_b1, ie_m, ie_mm, it_m, it_m0, il_m0, bI_rZ, Option.bind_some, bd2_some, Nat.add_zero, Nat.zero_add, if_true, if_false, Bool.false_eq_true, eq_self, c3, ra, bI_f]; try rfl, qi, g, rfl, sg, nx (by rw [hak]; try rfl)⟩
      · rw [hak] at ra
        cases hpi : pu i
        · rw [hpi] at ep
          obtain ⟨g', e1, s1⟩ := is g v i sg hv qi hpi
          cases hok : okB A P Q S gl (byN A P Q S gl (askB bi) m) F pu v i
          · rw [hok] at e1
            exact Or.inl ⟨_, by simp (disch := first | assumption | omega | decide) only [f_X12_byOne_b17, f_X12_byOne_j63, SM, LI, ↓li_m1, nI_add, pk_mul, nn_sub, nn_m1, nn_div, nn_rem, nn_nz, nn_mod, nJ_l, lN_add, lN_mul, nn_tb1, nI_bt, nn_and, nn_or, nn_xor, nn_shr, nn_1shl, nn_31, il_p, il_n, it_p, it_n, ie_p, ie_n, ie_b, ie_b1, ie_m, ie_mm, it_m, it_m0, il_m0, bI_rZ, Option.bind_some, bd2_some, Nat.add_zero, Nat.zero_add, if_true, if_false, Bool.false_eq_true, eq_self, c3, ra, bI_t, ep, bI_f, e1]; try rfl, qi, g', rfl, sl_tr sg s1, nx (by rw [hok, Bool.and_false])⟩
          · rw [hok] at e1
            exact Or.inr ⟨_, by simp (disch := first | assumption | omega | decide) only [f_X12_byOne_b17, f_X12_byOne_j63, SM, LI, ↓li_m1, nI_add, pk_mul, nn_sub, nn_m1, nn_div, nn_rem, nn_nz, nn_mod, nJ_l, lN_add, lN_mul, nn_tb1, nI_bt, nn_and, nn_or, nn_xor, nn_shr, nn_1shl, nn_31, il_p, il_n, it_p, it_n, ie_p, ie_n, ie_b, ie_b1, ie_m, ie_mm, it_m, it_m0, il_m0, bI_rZ, Option.bind_some, bd2_some, Nat.add_zero, Nat.zero_add, if_true, if_false, Bool.false_eq_true, eq_self, c3, ra, bI_t, ep, bI_f, e1]; try rfl, g', sl_tr sg s1, Or.inl ⟨rfl, anyB_iff.mpr ⟨i, qi, by rw [hak, hpi, hok]; try rfl⟩⟩⟩
        · rw [hpi] at ep
          exact Or.inl ⟨_, by simp (disch := first | assumption | omega | decide) only [f_X12_byOne_b17, f_X12_byOne_j63, SM, LI, ↓li_m1, nI_add, pk_mul, nn_sub, nn_m1, nn_div, nn_rem, nn_nz, nn_mod, nJ_l, lN_add, lN_mul, nn_tb1, nI_bt, nn_and, nn_or, nn_xor, nn_shr, nn_1shl, nn_31, il_p, il_n, it_p, it_n, ie_p, ie_n, ie_b, ie_b1, ie_m, ie_mm, it_m, it_m0, il_m0, bI_rZ, Option.bind_some, bd2_some, Nat.add_zero, Nat.zero_add, if_true, if_false, Bool.false_eq_true, eq_self, c3, ra, bI_t, ep]; try rfl, qi, g, rfl, sg, nx (by rw [hpi, Bool.not_true, Bool.and_false, Bool.false_and])⟩
    · obtain rfl : i = A 3 := by omega
      exact Or.inr ⟨_, by simp (disch := first | assumption | omega | decide) only [f_X12_byOne_b17, f_X12_byOne_j63, SM, LI, ↓li_m1, nI_add, pk_mul, nn_sub, nn_m1, nn_div, nn_rem, nn_nz, nn_mod, nJ_l, lN_add, lN_mul, nn_tb1, nI_bt, nn_and, nn_or, nn_xor, nn_shr, nn_1shl, nn_31, il_p, il_n, it_p, it_n, ie_p, ie_n, ie_b, ie_b1, ie_m, ie_mm, it_m, it_m0, il_m0, bI_rZ, Option.bind_some, bd2_some, Nat.add_zero, Nat.zero_add, if_true, if_false, Bool.false_eq_true, eq_self, c3]; try rfl, g, sg, Or.inr ⟨rfl, anyB_f.mpr hi0⟩⟩
  have e2 : ∃ e, f_X12_byOne_l3 113 (nI L) (nI gl) bi (nI 0) h = some e ∧ ∃ g', SL h g' L pu ∧ ((e = .inl g' ∧ byN A P Q S gl (askB bi) (m + 1) F pu = true) ∨ (e = .inr g' ∧ byN A P Q S gl (askB bi) (m + 1) F pu = false)) := by
    refine whl0 (fun i (s : Int32 × aH) => ∃ g, s = (nI i, g) ∧ SL h g L pu ∧ ∀ v, v < i → anyB (fun q => askB bi v && !pu q && okB A P Q S gl (byN A P Q S gl (askB bi) m) F pu v q) (A 3) = false) _ (A 4) (by omega) ⟨h, rfl, sl_rf hpu, fun a ha => absurd ha (by omega)⟩ ?_
    rintro i _ ⟨g, rfl, sg, hi0⟩ hi
    have lg := sg.1.lay hl
    obtain ⟨c0, c1, c2, c3, c4, cA⟩ := cm_e (cm_fr sg.1 (by decide) (by decide) hc)
    rcases Nat.lt_or_ge i (A 4) with qi | qi
    · obtain ⟨_, ee, g', sg', ⟨rfl, hx⟩ | ⟨rfl, hx⟩⟩ := e1 g i sg qi
      · exact Or.inr ⟨_, by simp (disch := first | assumption | omega | decide) only [f_X12_byOne_b3, f_X12_byOne_j63, SM, LI, ↓li_m1, nI_add, pk_mul, nn_sub, nn_m1, nn_div, nn_rem, nn_nz, nn_mod, nJ_l, lN_add, lN_mul, nn_tb1, nI_bt, nn_and, nn_or, nn_xor, nn_shr, nn_1shl, nn_31, il_p, il_n, it_p, it_n, ie_p, ie_n, ie_b, ie_b1, ie_m, ie_mm, it_m, it_m0, il_m0, bI_rZ, Option.bind_some, bd2_some, Nat.add_zero, Nat.zero_add, if_true, if_false, Bool.false_eq_true, eq_self, c4, ee]; try rfl, g', sg', Or.inl ⟨rfl, anyB_iff.mpr ⟨i, qi, hx⟩⟩⟩
      · refine Or.inl ⟨_, by simp (disch := first | assumption | omega | decide) only [f_X12_byOne_b3, f_X12_byOne_j63, SM, LI, ↓li_m1, nI_add, pk_mul, nn_sub, nn_m1, nn_div, nn_rem, nn_nz, nn_mod, nJ_l, lN_add, lN_mul, nn_tb1, nI_bt, nn_and, nn_or, nn_xor, nn_shr, nn_1shl, nn_31, il_p, il_n, it_p, it_n, ie_p, ie_n, ie_b, ie_b1, ie_m, ie_mm, it_m, it_m0, il_m0, bI_rZ, Option.bind_some, bd2_some, Nat.add_zero, Nat.zero_add, if_true, if_false, Bool.false_eq_true, eq_self, c4, ee]; try rfl, qi, g', rfl, sg', fun a ha => ?_⟩
        rcases Nat.lt_or_ge a i with u | u
        · exact hi0 a u
        · rw [show a = i by omega, hx]
    · obtain rfl : i = A 4 := by omega
      exact Or.inr ⟨_, by simp (disch := first | assumption | omega | decide) only [f_X12_byOne_b3, f_X12_byOne_j63, SM, LI, ↓li_m1, nI_add, pk_mul, nn_sub, nn_m1, nn_div, nn_rem, nn_nz, nn_mod, nJ_l, lN_add, lN_mul, nn_tb1, nI_bt, nn_and, nn_or, nn_xor, nn_shr, nn_1shl, nn_31, il_p, il_n, it_p, it_n, ie_p, ie_n, ie_b, ie_b1, ie_m, ie_mm, it_m, it_m0, il_m0, bI_rZ, Option.bind_some, bd2_some, Nat.add_zero, Nat.zero_add, if_true, if_false, Bool.false_eq_true, eq_self, c4]; try rfl, g, sg, Or.inr ⟨rfl, anyB_f.mpr hi0⟩⟩
  obtain ⟨_, e3, g, sg, ⟨rfl, hx⟩ | ⟨rfl, hx⟩⟩ := e2
  · rw [hx]
    exact ⟨g, by simp (disch := first | assumption | omega | decide) only [f_X12_byOne, SM, LI, ↓li_m1, nI_add, pk_mul, nn_sub, nn_m1, nn_div, nn_rem, nn_nz, nn_mod, nJ_l, lN_add, lN_mul, nn_tb1, nI_bt, nn_and, nn_or, nn_xor, nn_shr, nn_1shl, nn_31, il_p, il_n, it_p, it_n, ie_p, ie_n, ie_b, ie_b1, ie_m, ie_mm, it_m, it_m0, il_m0, bI_rZ, Option.bind_some, bd2_some, Nat.add_zero, Nat.zero_add, if_true, if_false, Bool.false_eq_true, eq_self, e3]; try rfl, sg⟩
  · rw [hx]
    exact ⟨g, by simp (disch := first | assumption | omega | decide) only [f_X12_byOne, SM, LI, ↓li_m1, nI_add, pk_mul, nn_sub, nn_m1, nn_div, nn_rem, nn_nz, nn_mod, nJ_l, lN_add, lN_mul, nn_tb1, nI_bt, nn_and, nn_or, nn_xor, nn_shr, nn_1shl, nn_31, il_p, il_n, it_p, it_n, ie_p, ie_n, ie_b, ie_b1, ie_m, ie_mm, it_m, it_m0, il_m0, bI_rZ, Option.bind_some, bd2_some, Nat.add_zero, Nat.zero_add, if_true, if_false, Bool.false_eq_true, eq_self, e3]; try rfl, sg⟩
theorem r_byTwo {h : aH} (hl : LAY h) {A : Nat → Nat} {P : Nat → Bool} {Q : Nat → Nat → Bool} (hc : CM h A P Q) (hw : WF A) {S : Nat → Nat → Nat → Nat → Nat} (hs : SY h A P S) {F : Nat → Nat → Nat} {pu : Nat → Bool} {L gl m : Nat} {bi : Int32} (hb : FB h A L F) (hpu : PU h pu) (is : ∀ g v q, SL h g L pu → v < A 4 → q < A 3 → pu q = false → ∃ g', f_X12_twoAre g 113 (nI L) (nI gl) (nI v) (nI q) bi = some (bI (okB A P Q S gl (byN A P Q S gl (askB bi) m) F pu v q), g') ∧ SL g g' L pu) : ∃ h', f_X12_byTwo h 113 (nI L) (nI gl) bi = some (bI (byN A P Q S gl (askB bi) (m + 1) F pu), h') ∧ SL h h' L pu := by
  obtain ⟨b0, b1, b2l, b2, b3, b4⟩ := wf_b hw
  obtain ⟨c0, c1, c2, c3, c4, cA⟩ := cm_e hc
  have e1 : ∀ g v, SL h g L pu → v < A 4 → ∃ e, f_X12_byTwo_l17 113 (nI L) (nI gl) bi (nI v) (nI 0) g = some e ∧ ∃ g', SL h g' L pu ∧ ((e = .inl g' ∧ anyB (fun q => askB bi v && !pu q && okB A P Q S gl (byN A P Q S gl (askB bi) m) F pu v q) (A 3) = true) ∨ (e = .inr g' ∧ anyB (fun q => askB bi v && !pu q && okB A P Q S gl (byN A P Q S gl (askB bi) m) F pu v q) (A 3) = false)) := fun g0 v sg0 hv => by
    refine whl0 (fun i (s : Int32 × aH) => ∃ g, s = (nI i, g) ∧ SL h g L pu ∧ ∀ q, q < i → (askB bi v && !pu q && okB A P Q S gl (byN A P Q S gl (askB bi) m) F pu v q) = false) _ (A 3) (by omega) ⟨g0, rfl, sg0, fun a ha => absurd ha (by omega)⟩ ?_
    rintro i _ ⟨g, rfl, sg, hi0⟩ hi
    have lg := sg.1.lay hl
    have cg := cm_fr sg.1 (by decide) (by decide) hc
    obtain ⟨c0, c1, c2, c3, c4, cA⟩ := cm_e cg
    have ra := r_isAsked (h := g) (v := v) (bi := bi)
    rcases Nat.lt_or_ge i (A 3) with qi | qi
    · have ep := sg.2.2 i (by omega)
      have nx : (askB bi v && !pu i && okB A P Q S gl (byN A P Q S gl (askB bi) m) F pu v i) = false → ∀ q, q < i + 1 → (askB bi v && !pu q && okB A P Q S gl (byN A P Q S gl (askB bi) m) F pu v q) = false := fun hh a ha => by
        rcases Nat.lt_or_ge a i with u | u
        · exact hi0 a u
        · rw [show a = i by omega, hh]
      rcases (Bool.eq_false_or_eq_true (askB bi v)).symm with hak | hak
      · rw [hak] at ra
        exact Or.inl ⟨_, by simp (disch := first | assumption | omega | decide) only [f_X12_byTwo_b17, f_X12_byTwo_j64, SM, LI, ↓li_m1, nI_add, pk_mul, nn_sub, nn_m1, nn_div, nn_rem, nn_nz, nn_mod, nJ_l, lN_add, lN_mul, nn_tb1, nI_bt, nn_and, nn_or, nn_xor, nn_shr, nn_1shl, nn_31, il_p, il_n, it_p, it_n, ie_p, ie_n, ie_b, ie_b1, ie_m, ie_mm, it_m, it_m0, il_m0, bI_rZ, Option.bind_some, bd2_some, Nat.add_zero, Nat.zero_add, if_true, if_false, Bool.false_eq_true, eq_self, c3, ra, bI_f]; try rfl, qi, g, rfl, sg, nx (by rw [hak]; try rfl)⟩
      · rw [hak] at ra
        cases hpi : pu i
        · rw [hpi] at ep
          obtain ⟨g', e1, s1⟩ := is g v i sg hv qi hpi
          cases hok : okB A P Q S gl (byN A P Q S gl (askB bi) m) F pu v i
          · rw [hok] at e1
            exact Or.inl ⟨_, by simp (disch := first | assumption | omega | decide) only [f_X12_byTwo_b17, f_X12_byTwo_j64, SM, LI, ↓li_m1, nI_add, pk_mul, nn_sub, nn_m1, nn_div, nn_rem, nn_nz, nn_mod, nJ_l, lN_add, lN_mul, nn_tb1, nI_bt, nn_and, nn_or, nn_xor, nn_shr, nn_1shl, nn_31, il_p, il_n, it_p, it_n, ie_p, ie_n, ie_b, ie_b1, ie_m, ie_mm, it_m, it_m0, il_m0, bI_rZ, Option.bind_some, bd2_some, Nat.add_zero, Nat.zero_add, if_true, if_false, Bool.false_eq_true, eq_self, c3, ra, bI_t, ep, bI_f, e1]; try rfl, qi, g', rfl, sl_tr sg s1, nx (by rw [hok, Bool.and_false])⟩
          · rw [hok] at e1
            exact Or.inr ⟨_, by simp (disch := first | assumption | omega | decide) only [f_X12_byTwo_b17, f_X12_byTwo_j64, SM, LI, ↓li_m1, nI_add, pk_mul, nn_sub, nn_m1, nn_div, nn_rem, nn_nz, nn_mod, nJ_l, lN_add, lN_mul, nn_tb1, nI_bt, nn_and, nn_or, nn_xor, nn_shr, nn_1shl, nn_31, il_p, il_n, it_p, it_n, ie_p, ie_n, ie_b, ie_b1, ie_m, ie_mm, it_m, it_m0, il_m0, bI_rZ, Option.bind_some, bd2_some, Nat.add_zero, Nat.zero_add, if_true, if_false, Bool.false_eq_true, eq_self, c3, ra, bI_t, ep, bI_f, e1]; try rfl, g', sl_tr sg s1, Or.inl ⟨rfl, anyB_iff.mpr ⟨i, qi, by rw [hak, hpi, hok]; try rfl⟩⟩⟩
        · rw [hpi] at ep
          exact Or.inl ⟨_, by simp (disch := first | assumption | omega | decide) only [f_X12_byTwo_b17, f_X12_byTwo_j64, SM, LI, ↓li_m1, nI_add, pk_mul, nn_sub, nn_m1, nn_div, nn_rem, nn_nz, nn_mod, nJ_l, lN_add, lN_mul, nn_tb1, nI_bt, nn_and, nn_or, nn_xor, nn_shr, nn_1shl, nn_31, il_p, il_n, it_p, it_n, ie_p, ie_n, ie_b, ie_b1, ie_m, ie_mm, it_m, it_m0, il_m0, bI_rZ, Option.bind_some, bd2_some, Nat.add_zero, Nat.zero_add, if_true, if_false, Bool.false_eq_true, eq_self, c3, ra, bI_t, ep]; try rfl, qi, g, rfl, sg, nx (by rw [hpi, Bool.not_true, Bool.and_false, Bool.false_and])⟩
    · obtain rfl : i = A 3 := by omega
      exact Or.inr ⟨_, by simp (disch := first | assumption | omega | decide) only [f_X12_byTwo_b17, f_X12_byTwo_j64, SM, LI, ↓li_m1, nI_add, pk_mul, nn_sub, nn_m1, nn_div, nn_rem, nn_nz, nn_mod, nJ_l, lN_add, lN_mul, nn_tb1, nI_bt, nn_and, nn_or, nn_xor, nn_shr, nn_1shl, nn_31, il_p, il_n, it_p, it_n, ie_p, ie_n, ie_b, ie_b1, ie_m, ie_mm, it_m, it_m0, il_m0, bI_rZ, Option.bind_some, bd2_some, Nat.add_zero, Nat.zero_add, if_true, if_false, Bool.false_eq_true, eq_self, c3]; try rfl, g, sg, Or.inr ⟨rfl, anyB_f.mpr hi0⟩⟩
  have e2 : ∃ e, f_X12_byTwo_l3 113 (nI L) (nI gl) bi (nI 0) h = some e ∧ ∃ g', SL h g' L pu ∧ ((e = .inl g' ∧ byN A P Q S gl (askB bi) (m + 1) F pu = true) ∨ (e = .inr g' ∧ byN A P Q S gl (askB bi) (m + 1) F pu = false)) := by
    refine whl0 (fun i (s : Int32 × aH) => ∃ g, s = (nI i, g) ∧ SL h g L pu ∧ ∀ v, v < i → anyB (fun q => askB bi v && !pu q && okB A P Q S gl (byN A P Q S gl (askB bi) m) F pu v q) (A 3) = false) _ (A 4) (by omega) ⟨h, rfl, sl_rf hpu, fun a ha => absurd ha (by omega)⟩ ?_
    rintro i _ ⟨g, rfl, sg, hi0⟩ hi
    have lg := sg.1.lay hl
    obtain ⟨c0, c1, c2, c3, c4, cA⟩ := cm_e (cm_fr sg.1 (by decide) (by decide) hc)
    rcases Nat.lt_or_ge i (A 4) with qi | qi
    · obtain ⟨_, ee, g', sg', ⟨rfl, hx⟩ | ⟨rfl, hx⟩⟩ := e1 g i sg qi
      · exact Or.inr ⟨_, by simp (disch := first | assumption | omega | decide) only [f_X12_byTwo_b3, f_X12_byTwo_j64, SM, LI, ↓li_m1, nI_add, pk_mul, nn_sub, nn_m1, nn_div, nn_rem, nn_nz, nn_mod, nJ_l, lN_add, lN_mul, nn_tb1, nI_bt, nn_and, nn_or, nn_xor, nn_shr, nn_1shl, nn_31, il_p, il_n, it_p, it_n, ie_p, ie_n, ie_b, ie_b1, ie_m, ie_mm, it_m, it_m0, il_m0, bI_rZ, Option.bind_some, bd2_some, Nat.add_zero, Nat.zero_add, if_true, if_false, Bool.false_eq_true, eq_self, c4, ee]; try rfl, g', sg', Or.inl ⟨rfl, anyB_iff.mpr ⟨i, qi, hx⟩⟩⟩
      · refine Or.inl ⟨_, by simp (disch := first | assumption | omega | decide) only [f_X12_byTwo_b3, f_X12_byTwo_j64, SM, LI, ↓li_m1, nI_add, pk_mul, nn_sub, nn_m1, nn_div, nn_rem, nn_nz, nn_mod, nJ_l, lN_add, lN_mul, nn_tb1, nI_bt, nn_and, nn_or, nn_xor, nn_shr, nn_1shl, nn_31, il_p, il_n, it_p, it_n, ie_p, ie_n, ie_b, ie_b1, ie_m, ie_mm, it_m, it_m0, il_m0, bI_rZ, Option.bind_some, bd2_some, Nat.add_zero, Nat.zero_add, if_true, if_false, Bool.false_eq_true, eq_self, c4, ee]; try rfl, qi, g', rfl, sg', fun a ha => ?_⟩
        rcases Nat.lt_or_ge a i with u | u
        · exact hi0 a u
        · rw [show a = i by omega, hx]
    · obtain rfl : i = A 4 := by omega
      exact Or.inr ⟨_, by simp (disch := first | assumption | omega | decide) only [f_X12_byTwo_b3, f_X12_byTwo_j64, SM, LI, ↓li_m1, nI_add, pk_mul, nn_sub, nn_m1, nn_div, nn_rem, nn_nz, nn_mod, nJ_l, lN_add, lN_mul, nn_tb1, nI_bt, nn_and, nn_or, nn_xor, nn_shr, nn_1shl, nn_31, il_p, il_n, it_p, it_n, ie_p, ie_n, ie_b, ie_b1, ie_m, ie_mm, it_m, it_m0, il_m0, bI_rZ, Option.bind_some, bd2_some, Nat.add_zero, Nat.zero_add, if_true, if_false, Bool.false_eq_true, eq_self, c4]; try rfl, g, sg, Or.inr ⟨rfl, anyB_f.mpr hi0⟩⟩
  obtain ⟨_, e3, g, sg, ⟨rfl, hx⟩ | ⟨rfl, hx⟩⟩ := e2
  · rw [hx]
    exact ⟨g, by simp (disch := first | assumption | omega | decide) only [f_X12_byTwo, SM, LI, ↓li_m1, nI_add, pk_mul, nn_sub, nn_m1, nn_div, nn_rem, nn_nz, nn_mod, nJ_l, lN_add, lN_mul, nn_tb1, nI_bt, nn_and, nn_or, nn_xor, nn_shr, nn_1shl, nn_31, il_p, il_n, it_p, it_n, ie_p, ie_n, ie_b, ie_b1, ie_m, ie_mm, it_m, it_m0, il_m0, bI_rZ, Option.bind_some, bd2_some, Nat.add_zero, Nat.zero_add, if_true, if_false, Bool.false_eq_true, eq_self, e3]; try rfl, sg⟩
  · rw [hx]
    exact ⟨g, by simp (disch := first | assumption | omega | decide) only [f_X12_byTwo, SM, LI, ↓li_m1, nI_add, pk_mul, nn_sub, nn_m1, nn_div, nn_rem, nn_nz, nn_mod, nJ_l, lN_add, lN_mul, nn_tb1, nI_bt, nn_and, nn_or, nn_xor, nn_shr, nn_1shl, nn_31, il_p, il_n, it_p, it_n, ie_p, ie_n, ie_b, ie_b1, ie_m, ie_mm, it_m, it_m0, il_m0, bI_rZ, Option.bind_some, bd2_some, Nat.add_zero, Nat.zero_add, if_true, if_false, Bool.false_eq_true, eq_self, e3]; try rfl, sg⟩
