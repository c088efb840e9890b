/-! ===== the reference: answered, worst, best ===== -/
def anF (S : Nat → Nat → Nat → Nat → Nat) (v q a : Nat) (F : Nat → Nat → Nat) : Nat → Nat → Nat := fun o w => if o = v then F o w &&& kfN S v q w a else F o w
theorem anF_lt {S : Nat → Nat → Nat → Nat → Nat} {v q a : Nat} {F : Nat → Nat → Nat} (hF : ∀ v w, F v w < 16) : ∀ o w, anF S v q a F o w < 16 := fun o w => by
  have := hF o w
  unfold anF
  split
  · exact Nat.lt_of_le_of_lt Nat.and_le_left this
  · exact this
theorem anF_P {P : Nat → Bool} {S : Nat → Nat → Nat → Nat → Nat} {v q a : Nat} {F : Nat → Nat → Nat} (hP : ∀ v w, F v w ≠ 0 → P w = true) : ∀ o w, anF S v q a F o w ≠ 0 → P w = true := fun o w h => by
  refine hP o w (fun e => h ?_)
  unfold anF
  rw [e, Nat.zero_and, ite_self]
theorem r_ans1 {h : aH} (hl : LAY h) {A : Nat → Nat} {P : Nat → Bool} {Q : Nat → Nat → Bool} (hc : CM h A P Q) (hw : WF A) {S : Nat → Nat → Nat → Nat → Nat} (hs : SY h A P S) {F : Nat → Nat → Nat} {L v q a o : Nat} (hb : FB h A L F) (hF : ∀ v w, F v w < 16) (hP : ∀ v w, F v w ≠ 0 → P w = true) (hL : L < 3) (hv : v < A 4) (hq : q < A 3) (ha : a < 24) (ho : o < A 4) : f_X12_answered_l26 113 (nI L) (nI v) (nI q) (nI a) (nI (1024 * (L + 1))) (nI o) (nI 0) h = some (wI h 129 (setF (h.2.1 129) (1024 * (L + 1) + 256 * o) (A 2) (fun w => nI (anF S v q a F o w)))) := by
  obtain ⟨b0, b1, b2l, b2, b3, b4⟩ := wf_b hw
  obtain ⟨c0, c1, c2, c3, c4, cA⟩ := cm_e hc
  refine for0 (body := fun zz : Int32 × aH => f_X12_answered_b26 113 (nI L) (nI v) (nI q) (nI a) (nI (1024 * (L + 1))) (nI o) zz.1 zz.2) (fun j => (nI j, wI h 129 (setF (h.2.1 129) (1024 * (L + 1) + 256 * o) j (fun w => nI (anF S v q a F o w))))) (A 2) (e := wI h 129 (setF (h.2.1 129) (1024 * (L + 1) + 256 * o) (A 2) (fun w => nI (anF S v q a F o w)))) (by rw [setF_0, wI_self]) (by omega) (fun j hj => ?_) ?_
  · let g := wI h 129 (setF (h.2.1 129) (1024 * (L + 1) + 256 * o) j (fun w => nI (anF S v q a F o w)))
    have hg : LAY g := hl
    have cg : CM g A P Q := hc
    have sg : SY g A P S := hs
    have g2 : g.2.1 114 2 = nI (A 2) := c2
    have e : g.2.1 129 (1024 * L + 256 * o + j) = nI (F o j) := by
      show (wI h 129 _).2.1 129 (1024 * L + 256 * o + j) = _
      rw [wI_s, setF_out (by omega), Nat.add_assoc]
      exact hb o j ho hj
    have lt := hF o j
    show f_X12_answered_b26 113 (nI L) (nI v) (nI q) (nI a) (nI (1024 * (L + 1))) (nI o) (nI j) g = _
    by_cases hx : o = v
    · by_cases hz : F o j = 0
      · simp (disch := first | assumption | omega | decide) only [f_X12_answered_b26, f_X12_answered_j104, f_X12_answered_j102, SM, LI, ↓li_m1, nI_add, pk_mul, nn_sub, nn_m1, nn_div, nn_rem, nn_nz, nn_mod, nJ_l, lN_add, lN_mul, nn_tb1, nI_bt, nn_and, nn_or, nn_xor, nn_shr, nn_1shl, nn_31, il_p, il_n, it_p, it_n, ie_p, ie_n, ie_b, ie_b1, ie_m, ie_mm, it_m, it_m0, il_m0, bI_rZ, Option.bind_some, bd2_some, Nat.add_zero, Nat.zero_add, if_true, if_false, Bool.false_eq_true, eq_self, g2, e]
        rw [← setF_s, hI_set]
        simp only [anF, hz, Nat.zero_and, ite_self]
      · have r := r_kfN hg cg hw sg hv hq hj (hP o j hz) (a := a) (by omega)
        simp (disch := first | assumption | omega | decide) only [f_X12_answered_b26, f_X12_answered_j104, f_X12_answered_j102, SM, LI, ↓li_m1, nI_add, pk_mul, nn_sub, nn_m1, nn_div, nn_rem, nn_nz, nn_mod, nJ_l, lN_add, lN_mul, nn_tb1, nI_bt, nn_and, nn_or, nn_xor, nn_shr, nn_1shl, nn_31, il_p, il_n, it_p, it_n, ie_p, ie_n, ie_b, ie_b1, ie_m, ie_mm, it_m, it_m0, il_m0, bI_rZ, Option.bind_some, bd2_some, Nat.add_zero, Nat.zero_add, if_true, if_false, Bool.false_eq_true, eq_self, g2, e, r]
        rw [← setF_s, hI_set]
        simp only [anF, hx, if_true]
    · simp (disch := first | assumption | omega | decide) only [f_X12_answered_b26, f_X12_answered_j104, f_X12_answered_j102, SM, LI, ↓li_m1, nI_add, pk_mul, nn_sub, nn_m1, nn_div, nn_rem, nn_nz, nn_mod, nJ_l, lN_add, lN_mul, nn_tb1, nI_bt, nn_and, nn_or, nn_xor, nn_shr, nn_1shl, nn_31, il_p, il_n, it_p, it_n, ie_p, ie_n, ie_b, ie_b1, ie_m, ie_mm, it_m, it_m0, il_m0, bI_rZ, Option.bind_some, bd2_some, Nat.add_zero, Nat.zero_add, if_true, if_false, Bool.false_eq_true, eq_self, g2, e]
      rw [← setF_s, hI_set]
      simp only [anF, hx, if_false]
  · have g2 : (wI h 129 (setF (h.2.1 129) (1024 * (L + 1) + 256 * o) (A 2) (fun w => nI (anF S v q a F o w)))).2.1 114 2 = nI (A 2) := c2
    have hg : LAY (wI h 129 (setF (h.2.1 129) (1024 * (L + 1) + 256 * o) (A 2) (fun w => nI (anF S v q a F o w)))) := hl
    simp (disch := first | assumption | omega | decide) only [f_X12_answered_b26, f_X12_answered_j104, f_X12_answered_j102, SM, LI, ↓li_m1, nI_add, pk_mul, nn_sub, nn_m1, nn_div, nn_rem, nn_nz, nn_mod, nJ_l, lN_add, lN_mul, nn_tb1, nI_bt, nn_and, nn_or, nn_xor, nn_shr, nn_1shl, nn_31, il_p, il_n, it_p, it_n, ie_p, ie_n, ie_b, ie_b1, ie_m, ie_mm, it_m, it_m0, il_m0, bI_rZ, Option.bind_some, bd2_some, Nat.add_zero, Nat.zero_add, if_true, if_false, Bool.false_eq_true, eq_self, g2]
/-- the levels up to L are as they were -/
def LV (h g : aH) (L : Nat) : Prop := ∀ x, x < 1024 * (L + 1) → g.2.1 129 x = h.2.1 129 x
theorem lv_fb {h g : aH} {A : Nat → Nat} {L : Nat} {F : Nat → Nat → Nat} (hv : LV h g L) (hw : WF A) (hb : FB h A L F) : FB g A L F := fun v w h1 h2 => by
  obtain ⟨b0, b1, b2l, b2, b3, b4⟩ := wf_b hw
  rw [hv _ (by omega)]
  exact hb v w h1 h2
theorem lv_tr {h g k : aH} {L : Nat} (a : LV h g L) (b : LV g k L) : LV h k L := fun x hx => (b x hx).trans (a x hx)
theorem lv_mono {h g : aH} {L L' : Nat} (a : LV h g L) (hL : L' ≤ L) : LV h g L' := fun x hx => a x (by omega)
theorem pu_fr {h h' : aH} {p : Nat → Bool} {cI cJ f0 f1 : List Nat} (hf : FR h h' cI cJ f0 f1) (h1 : 130 ∉ cI) (hp : PU h p) : PU h' p := by
  unfold PU
  rw [hf.I 130 h1 (by decide) (by decide)]
  exact hp
theorem r_answered {h : aH} (hl : LAY h) {A : Nat → Nat} {P : Nat → Bool} {Q : Nat → Nat → Bool} (hc : CM h A P Q) (hw : WF A) {S : Nat → Nat → Nat → Nat → Nat} (hs : SY h A P S) {F : Nat → Nat → Nat} {L v q a : Nat} (hb : FB h A L F) (hF : ∀ v w, F v w < 16) (hP : ∀ v w, F v w ≠ 0 → P w = true) (hL : L < 3) (hv : v < A 4) (hq : q < A 3) (ha : a < 24) : ∃ h', f_X12_answered h 113 (nI L) (nI v) (nI q) (nI a) = some (nI (cntB (lfB A P (anF S v q a F)) (A 2)), h') ∧ FR h h' [129] [] [] [] ∧ LV h h' L ∧ FB h' A (L + 1) (anF S v q a F) := by
  obtain ⟨b0, b1, b2l, b2, b3, b4⟩ := wf_b hw
  obtain ⟨c0, c1, c2, c3, c4, cA⟩ := cm_e hc
  have e : ∃ h', f_X12_answered_l12 113 (nI L) (nI v) (nI q) (nI a) (nI (1024 * (L + 1))) (nI 0) h = some h' ∧ FR h h' [129] [] [] [] ∧ LV h h' L ∧ FB h' A (L + 1) (anF S v q a F) := by
    refine forI (fun o (s : Int32 × aH) => ∃ g, s = (nI o, g) ∧ FR h g [129] [] [] [] ∧ LV h g L ∧ ∀ u w, u < o → w < A 2 → g.2.1 129 (1024 * (L + 1) + (256 * u + w)) = nI (anF S v q a F u w)) _ (A 4) (by omega) ⟨h, rfl, FR.rf, fun _ _ => rfl, fun u w hu => absurd hu (by omega)⟩ ?_ ?_
    · rintro o _ ho ⟨g, rfl, fg, lv, hg⟩
      have lg := fg.lay hl
      have cg := cm_fr fg (by decide) (by decide) hc
      have r := r_ans1 lg cg hw (sy_fr fg (by decide) hs) (lv_fb lv hw hb) hF hP hL hv hq ha ho
      obtain ⟨c0, c1, c2, c3, c4, cA⟩ := cm_e cg
      refine ⟨(nI (o + 1), wI g 129 (setF (g.2.1 129) (1024 * (L + 1) + 256 * o) (A 2) (fun w => nI (anF S v q a F o w)))), by simp (disch := first | assumption | omega | decide) only [f_X12_answered_b12, f_X12_answered_j104, f_X12_answered_j102, SM, LI, ↓li_m1, nI_add, pk_mul, nn_sub, nn_m1, nn_div, nn_rem, nn_nz, nn_mod, nJ_l, lN_add, lN_mul, nn_tb1, nI_bt, nn_and, nn_or, nn_xor, nn_shr, nn_1shl, nn_31, il_p, il_n, it_p, it_n, ie_p, ie_n, ie_b, ie_b1, ie_m, ie_mm, it_m, it_m0, il_m0, bI_rZ, Option.bind_some, bd2_some, Nat.add_zero, Nat.zero_add, if_true, if_false, Bool.false_eq_true, eq_self, c4, r], _, rfl, fg.tr (FR.wI (by decide) (by decide) (by decide)), fun x hx => ?_, fun u w hu h1 => ?_⟩
      · rw [wI_s, setF_out (by omega)]
        exact lv x hx
      · rw [wI_s]
        rcases Nat.lt_or_ge u o with q | q
        · rw [setF_out (by omega)]
          exact hg u w q h1
        · obtain rfl : u = o := by omega
          rw [← Nat.add_assoc, setF_in h1]
    · rintro _ ⟨g, rfl, fg, lv, hg⟩
      have lg := fg.lay hl
      obtain ⟨c0, c1, c2, c3, c4, cA⟩ := cm_e (cm_fr fg (by decide) (by decide) hc)
      exact ⟨g, by simp (disch := first | assumption | omega | decide) only [f_X12_answered_b12, f_X12_answered_j104, f_X12_answered_j102, SM, LI, ↓li_m1, nI_add, pk_mul, nn_sub, nn_m1, nn_div, nn_rem, nn_nz, nn_mod, nJ_l, lN_add, lN_mul, nn_tb1, nI_bt, nn_and, nn_or, nn_xor, nn_shr, nn_1shl, nn_31, il_p, il_n, it_p, it_n, ie_p, ie_n, ie_b, ie_b1, ie_m, ie_mm, it_m, it_m0, il_m0, bI_rZ, Option.bind_some, bd2_some, Nat.add_zero, Nat.zero_add, if_true, if_false, Bool.false_eq_true, eq_self, c4], fg, lv, hg⟩
  obtain ⟨g, e1, fg, lv, hg⟩ := e
  have lg := fg.lay hl
  have r := r_leftAt lg (cm_fr fg (by decide) (by decide) hc) hw hg (anF_lt hF) (by omega)
  exact ⟨g, by simp (disch := first | assumption | omega | decide) only [f_X12_answered, SM, LI, ↓li_m1, nI_add, pk_mul, nn_sub, nn_m1, nn_div, nn_rem, nn_nz, nn_mod, nJ_l, lN_add, lN_mul, nn_tb1, nI_bt, nn_and, nn_or, nn_xor, nn_shr, nn_1shl, nn_31, il_p, il_n, it_p, it_n, ie_p, ie_n, ie_b, ie_b1, ie_m, ie_mm, it_m, it_m0, il_m0, bI_rZ, Option.bind_some, bd2_some, Nat.add_zero, Nat.zero_add, if_true, if_false, Bool.false_eq_true, eq_self, e1, r], fg, lv, hg⟩
def maxN (f : Nat → Nat) : Nat → Nat
  | 0 => 0
  | n + 1 => max (maxN f n) (f n)
theorem maxN_le {f : Nat → Nat} {B : Nat} (h : ∀ i, f i ≤ B) : ∀ n, maxN f n ≤ B
  | 0 => Nat.zero_le _
  | n + 1 => Nat.max_le.mpr ⟨maxN_le h n, h n⟩
theorem mx_nI {a b : Nat} (ha : a < 2147483648) (hb : b < 2147483648) : mxI (nI a) (nI b) = nI (max a b) := by
  unfold mxI
  by_cases h : a < b
  · rw [if_pos (nI_lt h (by omega)), Nat.max_eq_right (by omega)]
  · rw [if_neg (nI_nlt (by omega) (by omega)), Nat.max_eq_left (by omega)]
def woN (A : Nat → Nat) (P : Nat → Bool) (S : Nat → Nat → Nat → Nat → Nat) (F : Nat → Nat → Nat) (v q : Nat) : Nat := maxN (fun a => cntB (lfB A P (anF S v q a F)) (A 2)) (2 * A 3)
theorem r_worstOf {h : aH} (hl : LAY h) {A : Nat → Nat} {P : Nat → Bool} {Q : Nat → Nat → Bool} (hc : CM h A P Q) (hw : WF A) {S : Nat → Nat → Nat → Nat → Nat} (hs : SY h A P S) {F : Nat → Nat → Nat} {v q : Nat} (hb : FB h A 0 F) (hF : ∀ v w, F v w < 16) (hP : ∀ v w, F v w ≠ 0 → P w = true) (hv : v < A 4) (hq : q < A 3) : ∃ h', f_X12_worstOf h 113 (nI v) (nI q) = some (nI (woN A P S F v q), h') ∧ FR h h' [129] [] [] [] ∧ LV h h' 0 := by
  obtain ⟨b0, b1, b2l, b2, b3, b4⟩ := wf_b hw
  obtain ⟨c0, c1, c2, c3, c4, cA⟩ := cm_e hc
  have e : ∃ e, f_X12_worstOf_l5 113 (nI v) (nI q) (nI 0) (nI 0) h = some e ∧ ∃ g, e = (nI (woN A P S F v q), g) ∧ FR h g [129] [] [] [] ∧ LV h g 0 := by
    refine forI (fun a (s : Int32 × Int32 × aH) => ∃ g, s = (nI (maxN (fun a => cntB (lfB A P (anF S v q a F)) (A 2)) a), nI a, g) ∧ FR h g [129] [] [] [] ∧ LV h g 0) _ (2 * A 3) (by omega) ⟨h, rfl, FR.rf, fun _ _ => rfl⟩ ?_ ?_
    · rintro a _ ha ⟨g, rfl, fg, lv⟩
      have lg := fg.lay hl
      have cg := cm_fr fg (by decide) (by decide) hc
      obtain ⟨g', e1, f1, v1, -⟩ := r_answered lg cg hw (sy_fr fg (by decide) hs) (lv_fb lv hw hb) hF hP (L := 0) (by decide) hv hq (a := a) (by omega)
      obtain ⟨c0, c1, c2, c3, c4, cA⟩ := cm_e cg
      have q1 := cntB_le (lfB A P (anF S v q a F)) (A 2)
      have q2 := maxN_le (f := fun a => cntB (lfB A P (anF S v q a F)) (A 2)) (fun i => cntB_le _ _) a
      exact ⟨_, by simp (disch := first | assumption | omega | decide) only [f_X12_worstOf_b5, SM, LI, ↓li_m1, nI_add, pk_mul, nn_sub, nn_m1, nn_div, nn_rem, nn_nz, nn_mod, nJ_l, lN_add, lN_mul, nn_tb1, nI_bt, nn_and, nn_or, nn_xor, nn_shr, nn_1shl, nn_31, il_p, il_n, it_p, it_n, ie_p, ie_n, ie_b, ie_b1, ie_m, ie_mm, it_m, it_m0, il_m0, bI_rZ, Option.bind_some, bd2_some, Nat.add_zero, Nat.zero_add, if_true, if_false, Bool.false_eq_true, eq_self, c3, e1, mx_nI]; rfl, g', rfl, fg.tr f1, lv_tr lv v1⟩
    · rintro _ ⟨g, rfl, fg, lv⟩
      have lg := fg.lay hl
      obtain ⟨c0, c1, c2, c3, c4, cA⟩ := cm_e (cm_fr fg (by decide) (by decide) hc)
      exact ⟨_, by simp (disch := first | assumption | omega | decide) only [f_X12_worstOf_b5, SM, LI, ↓li_m1, nI_add, pk_mul, nn_sub, nn_m1, nn_div, nn_rem, nn_nz, nn_mod, nJ_l, lN_add, lN_mul, nn_tb1, nI_bt, nn_and, nn_or, nn_xor, nn_shr, nn_1shl, nn_31, il_p, il_n, it_p, it_n, ie_p, ie_n, ie_b, ie_b1, ie_m, ie_mm, it_m, it_m0, il_m0, bI_rZ, Option.bind_some, bd2_some, Nat.add_zero, Nat.zero_add, if_true, if_false, Bool.false_eq_true, eq_self, c3]; rfl, g, rfl, fg, lv⟩
  obtain ⟨_, e1, g, rfl, fg, lv⟩ := e
  exact ⟨g, by simp (disch := first | assumption | omega | decide) only [f_X12_worstOf, SM, LI, ↓li_m1, nI_add, pk_mul, nn_sub, nn_m1, nn_div, nn_rem, nn_nz, nn_mod, nJ_l, lN_add, lN_mul, nn_tb1, nI_bt, nn_and, nn_or, nn_xor, nn_shr, nn_1shl, nn_31, il_p, il_n, it_p, it_n, ie_p, ie_n, ie_b, ie_b1, ie_m, ie_mm, it_m, it_m0, il_m0, bI_rZ, Option.bind_some, bd2_some, Nat.add_zero, Nat.zero_add, if_true, if_false, Bool.false_eq_true, eq_self, e1], fg, lv⟩
/-- the best so far, and what it leaves at worst -/
def bsN (pu : Nat → Bool) (W : Nat → Nat) : Nat → Option (Nat × Nat)
  | 0 => none
  | q + 1 => if pu q = true then bsN pu W q else match bsN pu W q with
    | none => some (q, W q)
    | some (b, l) => if W q < l then some (q, W q) else some (b, l)
def bsI : Option (Nat × Nat) → Int32
  | none => m1
  | some (b, _) => nI b
def bsL : Option (Nat × Nat) → Int32
  | none => nI 0
  | some (_, l) => nI l
theorem woN_le (A : Nat → Nat) (P : Nat → Bool) (S : Nat → Nat → Nat → Nat → Nat) (F : Nat → Nat → Nat) (v q : Nat) : woN A P S F v q ≤ A 2 := maxN_le (fun i => cntB_le _ _) _
theorem bsN_b {pu : Nat → Bool} {W : Nat → Nat} {B : Nat} (hW : ∀ q, W q ≤ B) : ∀ {n b l}, bsN pu W n = some (b, l) → b < n ∧ l ≤ B
  | 0, b, l, h => by simp [bsN] at h
  | n + 1, b, l, h => by
    unfold bsN at h
    split at h
    · have := bsN_b hW h
      omega
    · cases hm : bsN pu W n with
      | none =>
        rw [hm] at h
        simp only [Option.some.injEq, Prod.mk.injEq] at h
        have := hW n
        omega
      | some x =>
        obtain ⟨b', l'⟩ := x
        rw [hm] at h
        have i := bsN_b hW hm
        have := hW n
        simp only at h
        split at h
        · simp only [Option.some.injEq, Prod.mk.injEq] at h
          omega
        · simp only [Option.some.injEq, Prod.mk.injEq] at h
          omega
theorem r_bestOf {h : aH} (hl : LAY h) {A : Nat → Nat} {P : Nat → Bool} {Q : Nat → Nat → Bool} (hc : CM h A P Q) (hw : WF A) {S : Nat → Nat → Nat → Nat → Nat} (hs : SY h A P S) {F : Nat → Nat → Nat} {pu : Nat → Bool} {v : Nat} (hb : FB h A 0 F) (hF : ∀ v w, F v w < 16) (hP : ∀ v w, F v w ≠ 0 → P w = true) (hpu : PU h pu) (hv : v < A 4) : ∃ h', f_X12_bestOf h 113 (nI v) = some (if cntB (lfB A P F) (A 2) = 0 then m1 else bsI (bsN pu (woN A P S F v) (A 3)), h') ∧ FR h h' [129] [] [] [] ∧ LV h h' 0 := by
  obtain ⟨b0, b1, b2l, b2, b3, b4⟩ := wf_b hw
  obtain ⟨c0, c1, c2, c3, c4, cA⟩ := cm_e hc
  have e : ∃ e, f_X12_bestOf_l7 113 (nI v) m1 (nI 0) (nI 0) h = some e ∧ ∃ g, e = (if cntB (lfB A P F) (A 2) = 0 then m1 else bsI (bsN pu (woN A P S F v) (A 3)), g) ∧ FR h g [129] [] [] [] ∧ LV h g 0 := by
    refine whl0 (fun i (s : Int32 × Int32 × Int32 × aH) => ∃ g, s = (bsI (bsN pu (woN A P S F v) i), bsL (bsN pu (woN A P S F v) i), nI i, g) ∧ FR h g [129] [] [] [] ∧ LV h g 0 ∧ (cntB (lfB A P F) (A 2) = 0 → i = 0)) _ (A 3) (by omega) ⟨h, rfl, FR.rf, fun _ _ => rfl, fun _ => rfl⟩ ?_
    rintro i _ ⟨g, rfl, fg, lv, hi0⟩ hi
    have lg := fg.lay hl
    have cg := cm_fr fg (by decide) (by decide) hc
    have fbg := lv_fb lv hw hb
    have rl := r_leftAt lg cg hw fbg hF (by decide)
    have pg := pu_fr fg (by decide) hpu
    obtain ⟨c0, c1, c2, c3, c4, cA⟩ := cm_e cg
    have cle := cntB_le (lfB A P F) (A 2)
    rcases Nat.lt_or_ge i (A 3) with q | q
    · by_cases hz : cntB (lfB A P F) (A 2) = 0
      · obtain rfl := hi0 hz
        refine Or.inr ⟨(m1, g), by simp (disch := first | assumption | omega | decide) only [f_X12_bestOf_b7, f_X12_bestOf_j68, f_X12_bestOf_j62, SM, LI, ↓li_m1, nI_add, pk_mul, nn_sub, nn_m1, nn_div, nn_rem, nn_nz, nn_mod, nJ_l, lN_add, lN_mul, nn_tb1, nI_bt, nn_and, nn_or, nn_xor, nn_shr, nn_1shl, nn_31, il_p, il_n, it_p, it_n, ie_p, ie_n, ie_b, ie_b1, ie_m, ie_mm, it_m, it_m0, il_m0, bI_rZ, Option.bind_some, bd2_some, Nat.add_zero, Nat.zero_add, if_true, if_false, Bool.false_eq_true, eq_self, c3, rl]; rfl, g, ?_, fg, lv⟩
        rw [if_pos hz]
      · refine Or.inl ?_
        have ep := pg i (by omega)
        cases hpi : pu i
        · rw [hpi] at ep
          obtain ⟨g', e1, f1, v1⟩ := r_worstOf lg cg hw (sy_fr fg (by decide) hs) fbg hF hP hv q
          have wle := woN_le A P S F v i
          cases hbs : bsN pu (woN A P S F v) i with
          | none => exact ⟨_, by simp (disch := first | assumption | omega | decide) only [f_X12_bestOf_b7, f_X12_bestOf_j68, f_X12_bestOf_j62, SM, LI, ↓li_m1, nI_add, pk_mul, nn_sub, nn_m1, nn_div, nn_rem, nn_nz, nn_mod, nJ_l, lN_add, lN_mul, nn_tb1, nI_bt, nn_and, nn_or, nn_xor, nn_shr, nn_1shl, nn_31, il_p, il_n, it_p, it_n, ie_p, ie_n, ie_b, ie_b1, ie_m, ie_mm, it_m, it_m0, il_m0, bI_rZ, Option.bind_some, bd2_some, Nat.add_zero, Nat.zero_add, if_true, if_false, Bool.false_eq_true, eq_self, c3, rl, ep, bI_f, e1, bsI, bsL]; rfl, q, g', by simp only [bsN, hpi, hbs, Bool.false_eq_true, if_false, bsI, bsL], fg.tr f1, lv_tr lv v1, fun e => absurd e hz⟩
          | some x =>
            obtain ⟨b, l⟩ := x
            have bb := bsN_b (woN_le A P S F v) hbs
            by_cases hx : woN A P S F v i < l
            · exact ⟨_, by simp (disch := first | assumption | omega | decide) only [f_X12_bestOf_b7, f_X12_bestOf_j68, f_X12_bestOf_j62, SM, LI, ↓li_m1, nI_add, pk_mul, nn_sub, nn_m1, nn_div, nn_rem, nn_nz, nn_mod, nJ_l, lN_add, lN_mul, nn_tb1, nI_bt, nn_and, nn_or, nn_xor, nn_shr, nn_1shl, nn_31, il_p, il_n, it_p, it_n, ie_p, ie_n, ie_b, ie_b1, ie_m, ie_mm, it_m, it_m0, il_m0, bI_rZ, Option.bind_some, bd2_some, Nat.add_zero, Nat.zero_add, if_true, if_false, Bool.false_eq_true, eq_self, c3, rl, ep, bI_f, e1, bsI, bsL]; rfl, q, g', by simp only [bsN, hpi, hbs, Bool.false_eq_true, if_false, bsI, bsL, hx, if_true], fg.tr f1, lv_tr lv v1, fun e => absurd e hz⟩
            · exact ⟨_, by simp (disch := first | assumption | omega | decide) only [f_X12_bestOf_b7, f_X12_bestOf_j68, f_X12_bestOf_j62, SM, LI, ↓li_m1, nI_add, pk_mul, nn_sub, nn_m1, nn_div, nn_rem, nn_nz, nn_mod, nJ_l, lN_add, lN_mul, nn_tb1, nI_bt, nn_and, nn_or, nn_xor, nn_shr, nn_1shl, nn_31, il_p, il_n, it_p, it_n, ie_p, ie_n, ie_b, ie_b1, ie_m, ie_mm, it_m, it_m0, il_m0, bI_rZ, Option.bind_some, bd2_some, Nat.add_zero, Nat.zero_add, if_true, if_false, Bool.false_eq_true, eq_self, c3, rl, ep, bI_f, e1, bsI, bsL]; rfl, q, g', by simp only [bsN, hpi, hbs, Bool.false_eq_true, if_false, bsI, bsL, hx], fg.tr f1, lv_tr lv v1, fun e => absurd e hz⟩
        · rw [hpi] at ep
          exact ⟨_, by simp (disch := first | assumption | omega | decide) only [f_X12_bestOf_b7, f_X12_bestOf_j68, f_X12_bestOf_j62, SM, LI, ↓li_m1, nI_add, pk_mul, nn_sub, nn_m1, nn_div, nn_rem, nn_nz, nn_mod, nJ_l, lN_add, lN_mul, nn_tb1, nI_bt, nn_and, nn_or, nn_xor, nn_shr, nn_1shl, nn_31, il_p, il_n, it_p, it_n, ie_p, ie_n, ie_b, ie_b1, ie_m, ie_mm, it_m, it_m0, il_m0, bI_rZ, Option.bind_some, bd2_some, Nat.add_zero, Nat.zero_add, if_true, if_false, Bool.false_eq_true, eq_self, c3, rl, ep, bI_t]; rfl, q, g, by simp only [bsN, hpi, if_true], fg, lv, fun e => absurd e hz⟩
    · obtain rfl : i = A 3 := by omega
      refine Or.inr ⟨_, by simp (disch := first | assumption | omega | decide) only [f_X12_bestOf_b7, f_X12_bestOf_j68, f_X12_bestOf_j62, SM, LI, ↓li_m1, nI_add, pk_mul, nn_sub, nn_m1, nn_div, nn_rem, nn_nz, nn_mod, nJ_l, lN_add, lN_mul, nn_tb1, nI_bt, nn_and, nn_or, nn_xor, nn_shr, nn_1shl, nn_31, il_p, il_n, it_p, it_n, ie_p, ie_n, ie_b, ie_b1, ie_m, ie_mm, it_m, it_m0, il_m0, bI_rZ, Option.bind_some, bd2_some, Nat.add_zero, Nat.zero_add, if_true, if_false, Bool.false_eq_true, eq_self, c3]; rfl, g, ?_, fg, lv⟩
      by_cases hz : cntB (lfB A P F) (A 2) = 0
      · rw [if_pos hz, hi0 hz]
        rfl
      · rw [if_neg hz]
  obtain ⟨_, e1, g, rfl, fg, lv⟩ := e
  exact ⟨g, by simp (disch := first | assumption | omega | decide) only [f_X12_bestOf, SM, LI, ↓li_m1, nI_add, pk_mul, nn_sub, nn_m1, nn_div, nn_rem, nn_nz, nn_mod, nJ_l, lN_add, lN_mul, nn_tb1, nI_bt, nn_and, nn_or, nn_xor, nn_shr, nn_1shl, nn_31, il_p, il_n, it_p, it_n, ie_p, ie_n, ie_b, ie_b1, ie_m, ie_mm, it_m, it_m0, il_m0, bI_rZ, Option.bind_some, bd2_some, Nat.add_zero, Nat.zero_add, if_true, if_false, Bool.false_eq_true, eq_self, e1], fg, lv⟩
