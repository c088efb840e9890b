/-! ===== calls that change nothing but the status: what they have in common ===== -/
theorem neg_or (x : Int32) : x < nI 0 ∨ ∃ v, v < 2147483648 ∧ x = nI v := by
  rcases pk_ix x (n := 2147483647) (by decide) with h | h | ⟨t, h, rfl⟩
  · exact Or.inl h
  · refine Or.inr ⟨2147483647, by decide, Int32.le_antisymm ?_ h⟩
    rw [Int32.le_iff_toInt_le]
    have := Int32.toInt_lt x
    have e : (nI 2147483647).toInt = 2147483647 := by decide
    omega
  · exact Or.inr ⟨t, by omega, rfl⟩
theorem ng_t {α : Type} {x : Int32} {a b : α} (h : x < nI 0) : (if x < nI 0 then a else b) = a := if_pos h
theorem ng_e {α : Type} {x : Int32} {k : Nat} {a b : α} (h : x < nI 0) (hk : k < 2147483648) : (if x = nI k then a else b) = b := if_neg (fun e => nI_pos (n := k) (by omega) (by rw [← e]; exact h))
def SCR : List Nat := [60, 61, 62, 63, 64, 65, 76, 129, 130, 131]
/-- the reference's side of what a call leans on -/
def RO (h : aH) (A : Nat → Nat) (P : Nat → Bool) (Q : Nat → Nat → Bool) (S : Nat → Nat → Nat → Nat → Nat) (n d : Nat) (M : Nat → Nat → Nat) : Prop := LAY h ∧ CM h A P Q ∧ WF A ∧ MM h n d M ∧ MW A n d M ∧ SY h A P S
theorem ro_fr {h h' : aH} {A : Nat → Nat} {P : Nat → Bool} {Q : Nat → Nat → Bool} {S : Nat → Nat → Nat → Nat → Nat} {n d : Nat} {M : Nat → Nat → Nat} {cI cJ f0 f1 : List Nat} (hf : FR h h' cI cJ f0 f1) (h1 : 114 ∉ cI) (h2 : 126 ∉ cI) (h3 : 115 ∉ cJ) (ro : RO h A P Q S n d M) : RO h' A P Q S n d M :=
  ⟨hf.lay ro.1, cm_fr hf h1 h3 ro.2.1, ro.2.2.1, mm_fr hf h1 ro.2.2.2.1, ro.2.2.2.2.1, sy_fr hf h2 ro.2.2.2.2.2⟩
/-- the class's side -/
def KO (h : aH) (c : Nat) (A : Nat → Nat) (P : Nat → Bool) (Q : Nat → Nat → Bool) (S : Nat → Nat → Nat → Nat → Nat) (n d : Nat) (M : Nat → Nat → Nat) : Prop := CS h c ∧ CC h c A P Q S ∧ WF A ∧ LAY h ∧ h.2.2.2 52 4 = some c ∧ MN h 53 n d M ∧ MW A n d M ∧ HR h 52 A P S M n ∧ h.2.2.2 0 11 = some c
theorem ko_fr {h h' : aH} {c : Nat} {A : Nat → Nat} {P : Nat → Bool} {Q : Nat → Nat → Bool} {S : Nat → Nat → Nat → Nat → Nat} {n d : Nat} {M : Nat → Nat → Nat} {cI cJ f0 f1 : List Nat} (hf : FR h h' cI cJ f0 f1) (h1 : ∀ x ∈ cI, x < 26 ∨ (41 < x ∧ x < 52) ∨ (59 < x ∧ x < 136)) (ko : KO h c A P Q S n d M) : KO h' c A P Q S n d M := by
  obtain ⟨k1, k2, k3, k4, k5, k6, k7, k8, k9⟩ := ko
  have hh := hh_fr hf (fun x hx => by have := h1 x hx; omega) k6 k8
  exact ⟨cs_fr hf k1, cc_fr hf (fun x hx => by have := h1 x hx; omega) k1 k2, k3, hf.lay k4, by rw [hf.2.1]; exact k5, hh.1, k7, hh.2, by rw [hf.2.1]; exact k9⟩
/-- both answer r, and set the status w -/
def CO (h : aH) (f : aH → Option (Int32 × aH)) (r w : Int32) : Prop := ∃ h1, f h = some (r, hI h1 0 17 w) ∧ FR h h1 SCR [] [] []
def RF (h : aH) (f : aH → Option (Int32 × aH)) (r w : Int32) : Prop := ∃ h1, f h = some (r, hI h1 113 3 w) ∧ FR h h1 SCR [] [] []
def QO (h : aH) (f g : aH → Option (Int32 × aH)) : Prop := ∃ r h1 h2, f h = some (r, h1) ∧ g h1 = some (r, h2) ∧ FR h h2 SCR [] [17] [3] ∧ ST h2
theorem qo_mk {h : aH} {A : Nat → Nat} {P : Nat → Bool} {Q : Nat → Nat → Bool} {S : Nat → Nat → Nat → Nat → Nat} {n d : Nat} {M : Nat → Nat → Nat} {f g : aH → Option (Int32 × aH)} {r w : Int32} (ro : RO h A P Q S n d M) (hc : CO h f r w) (hr : ∀ k, LAY k → CM k A P Q → MM k n d M → SY k A P S → RF k g r w) : QO h f g := by
  obtain ⟨h1, e1, f1⟩ := hc
  have fa : FR h (hI h1 0 17 w) SCR [] [17] [3] := (f1.mono (fun _ h => h) (fun _ h => h) (fun _ h => absurd h (List.not_mem_nil)) (fun _ h => absurd h (List.not_mem_nil))).tr (fr_0 (by decide))
  have rf := ro_fr fa (by decide) (by decide) (by decide) ro
  obtain ⟨h2, e2, f2⟩ := hr _ rf.1 rf.2.1 rf.2.2.2.1 rf.2.2.2.2.2
  refine ⟨r, _, _, e1, e2, (fa.tr (f2.mono (fun _ h => h) (fun _ h => h) (fun _ h => absurd h (List.not_mem_nil)) (fun _ h => absurd h (List.not_mem_nil)))).tr (fr_1 (by decide)), ?_⟩
  unfold ST
  rw [rI_hI, if_neg (by decide), f2.2.2.2.2.1 17 (List.not_mem_nil), rI_hI, if_pos ⟨rfl, rfl⟩, rI_hI, if_pos ⟨rfl, rfl⟩]

theorem o_left {h : aH} {c : Nat} {A : Nat → Nat} {P : Nat → Bool} {Q : Nat → Nat → Bool} {S : Nat → Nat → Nat → Nat → Nat} {n d : Nat} {M : Nat → Nat → Nat} (ko : KO h c A P Q S n d M) (ro : RO h A P Q S n d M) : QO h (fun g => f_X11_left g 0) (fun g => f_X12_left g 113) := by
  obtain ⟨hs, hc, hw, hl, hf, hm, mw, hr, hn⟩ := id ko
  obtain ⟨b0, b1, b2l, b2, b3, b4⟩ := wf_b hw
  obtain ⟨mn, md, mk, mi⟩ := id mw
  obtain ⟨⟨e0, e1, e2, e15, e3, e4, em⟩, -⟩ := id hc
  have hv : h.2.1 52 5 = nI (cntB (lvB A P S M n) (A 2)) := hr.1
  refine qo_mk (r := nI (cntB (lvB A P S M n) (A 2))) (w := nI 0) ro ⟨h, by simp (disch := first | assumption | omega | decide | ((repeat first | apply lyI | apply lyJ | apply lywI | apply lywJ | apply csI | apply csJ | apply cswI | apply cswJ); assumption)) only [f_X11_left, f_X11_give, S0, SH52, LI, ↓li_m1, nI_add, pk_mul, nn_sub, nn_m1, nn_div, nn_rem, nn_nz, nn_mod, nJ_l, lN_add, lN_mul, nn_tb1, nI_bt, nn_and, nn_or, nn_xor, nn_shr, nn_1shl, nn_31, il_p, il_n, it_p, it_n, ie_p, ie_n, ie_b, ie_b1, ie_m, ie_mm, it_m, it_m0, il_m0, bI_rZ, Option.bind_some, bd2_some, Nat.add_zero, Nat.zero_add, if_true, if_false, Bool.false_eq_true, eq_self, hI_R, hJ_R, ng_t, ng_e, hv], FR.rf⟩ (fun k kl kc km ks => by
    obtain ⟨g, e, fg, fb, -⟩ := r_fitsAll kl kc hw km mw ks
    have lg := fg.lay kl
    have r := r_leftAt lg (cm_fr fg (by decide) (by decide) kc) hw fb (fun v w => FT_lt v w) (L := 0) (by decide)
    rw [show (fun v w => ftN A P S M (2 ^ n - 1) n v w) = FT A P S M n from rfl, lf_lv] at r
    exact ⟨g, by simp (disch := first | assumption | omega | decide | ((repeat first | apply lyI | apply lyJ | apply lywI | apply lywJ | apply csI | apply csJ | apply cswI | apply cswJ); assumption)) only [f_X12_left, f_X12_gives, SM, LI, ↓li_m1, nI_add, pk_mul, nn_sub, nn_m1, nn_div, nn_rem, nn_nz, nn_mod, nJ_l, lN_add, lN_mul, nn_tb1, nI_bt, nn_and, nn_or, nn_xor, nn_shr, nn_1shl, nn_31, il_p, il_n, it_p, it_n, ie_p, ie_n, ie_b, ie_b1, ie_m, ie_mm, it_m, it_m0, il_m0, bI_rZ, Option.bind_some, bd2_some, Nat.add_zero, Nat.zero_add, if_true, if_false, Bool.false_eq_true, eq_self, hI_R, hJ_R, ng_t, ng_e, e, r], fg.mono (by decide) (by decide) (by decide) (by decide)⟩)
theorem o_isLeft {h : aH} {c : Nat} {A : Nat → Nat} {P : Nat → Bool} {Q : Nat → Nat → Bool} {S : Nat → Nat → Nat → Nat → Nat} {n d : Nat} {M : Nat → Nat → Nat} (ko : KO h c A P Q S n d M) (ro : RO h A P Q S n d M) (x : Int32) : QO h (fun g => f_X11_isLeft g 0 x) (fun g => f_X12_isLeft g 113 x) := by
  obtain ⟨hs, hc, hw, hl, hf, hm, mw, hr, hn⟩ := id ko
  obtain ⟨b0, b1, b2l, b2, b3, b4⟩ := wf_b hw
  obtain ⟨mn, md, mk, mi⟩ := id mw
  obtain ⟨⟨e0, e1, e2, e15, e3, e4, em⟩, -⟩ := id hc
  have bad : (x < nI 0 ∨ ∃ v, v < 2147483648 ∧ x = nI v ∧ A 2 ≤ v) → QO h (fun g => f_X11_isLeft g 0 x) (fun g => f_X12_isLeft g 113 x) := fun hx => by
    refine qo_mk (r := m1) (w := nI 1) ro ⟨h, ?_, FR.rf⟩ (fun k kl kc km ks => by
      obtain ⟨c0, c1, c2, c3, c4, cA⟩ := cm_e kc
      refine ⟨k, ?_, FR.rf⟩
      rcases hx with hx | ⟨v, v1, rfl, v2⟩ <;> simp (disch := first | assumption | omega | decide | ((repeat first | apply lyI | apply lyJ | apply lywI | apply lywJ | apply csI | apply csJ | apply cswI | apply cswJ); assumption)) only [f_X12_isLeft, f_X12_isLeft_j33, f_X12_isWorld, f_X12_refuse, SM, LI, ↓li_m1, nI_add, pk_mul, nn_sub, nn_m1, nn_div, nn_rem, nn_nz, nn_mod, nJ_l, lN_add, lN_mul, nn_tb1, nI_bt, nn_and, nn_or, nn_xor, nn_shr, nn_1shl, nn_31, il_p, il_n, it_p, it_n, ie_p, ie_n, ie_b, ie_b1, ie_m, ie_mm, it_m, it_m0, il_m0, bI_rZ, Option.bind_some, bd2_some, Nat.add_zero, Nat.zero_add, if_true, if_false, Bool.false_eq_true, eq_self, hI_R, hJ_R, ng_t, ng_e, c2])
    rcases hx with hx | ⟨v, v1, rfl, v2⟩ <;> simp (disch := first | assumption | omega | decide | ((repeat first | apply lyI | apply lyJ | apply lywI | apply lywJ | apply csI | apply csJ | apply cswI | apply cswJ); assumption)) only [f_X11_isLeft, f_X11_isLeft_j37, f_X11_below, f_X11_refuse, S0, SC, LI, ↓li_m1, nI_add, pk_mul, nn_sub, nn_m1, nn_div, nn_rem, nn_nz, nn_mod, nJ_l, lN_add, lN_mul, nn_tb1, nI_bt, nn_and, nn_or, nn_xor, nn_shr, nn_1shl, nn_31, il_p, il_n, it_p, it_n, ie_p, ie_n, ie_b, ie_b1, ie_m, ie_mm, it_m, it_m0, il_m0, bI_rZ, Option.bind_some, bd2_some, Nat.add_zero, Nat.zero_add, if_true, if_false, Bool.false_eq_true, eq_self, hI_R, hJ_R, ng_t, ng_e, hn, e2]
  rcases neg_or x with hx | ⟨w, w1, rfl⟩
  · exact bad (Or.inl hx)
  by_cases h2 : w < A 2
  · have r0 := k_lives52 hs hc hw hl hf hm mw hr h2
    refine qo_mk (r := bI (lvB A P S M n w)) (w := nI 0) ro ⟨h, ?_, FR.rf⟩ (fun k kl kc km ks => by
      obtain ⟨c0, c1, c2, c3, c4, cA⟩ := cm_e kc
      obtain ⟨g, e, fg, fb, -⟩ := r_fitsAll kl kc hw km mw ks
      have lg := fg.lay kl
      have r := r_isLeftAt lg (cm_fr fg (by decide) (by decide) kc) hw fb (fun v w => FT_lt v w) (L := 0) (by decide) h2
      rw [show (fun v w => ftN A P S M (2 ^ n - 1) n v w) = FT A P S M n from rfl, lf_lv] at r
      refine ⟨g, ?_, fg.mono (by decide) (by decide) (by decide) (by decide)⟩
      cases hb : lvB A P S M n w <;> rw [hb] at r <;> simp (disch := first | assumption | omega | decide | ((repeat first | apply lyI | apply lyJ | apply lywI | apply lywJ | apply csI | apply csJ | apply cswI | apply cswJ); assumption)) only [f_X12_isLeft, f_X12_isLeft_j33, f_X12_isWorld, f_X12_gives, SM, LI, ↓li_m1, nI_add, pk_mul, nn_sub, nn_m1, nn_div, nn_rem, nn_nz, nn_mod, nJ_l, lN_add, lN_mul, nn_tb1, nI_bt, nn_and, nn_or, nn_xor, nn_shr, nn_1shl, nn_31, il_p, il_n, it_p, it_n, ie_p, ie_n, ie_b, ie_b1, ie_m, ie_mm, it_m, it_m0, il_m0, bI_rZ, Option.bind_some, bd2_some, Nat.add_zero, Nat.zero_add, if_true, if_false, Bool.false_eq_true, eq_self, hI_R, hJ_R, ng_t, ng_e, c2, e, r, bI_f, bI_t])
    cases hb : lvB A P S M n w <;> rw [hb] at r0 <;> simp (disch := first | assumption | omega | decide | ((repeat first | apply lyI | apply lyJ | apply lywI | apply lywJ | apply csI | apply csJ | apply cswI | apply cswJ); assumption)) only [f_X11_isLeft, f_X11_isLeft_j37, f_X11_below, f_X11_give, S0, SC, SH52, LI, ↓li_m1, nI_add, pk_mul, nn_sub, nn_m1, nn_div, nn_rem, nn_nz, nn_mod, nJ_l, lN_add, lN_mul, nn_tb1, nI_bt, nn_and, nn_or, nn_xor, nn_shr, nn_1shl, nn_31, il_p, il_n, it_p, it_n, ie_p, ie_n, ie_b, ie_b1, ie_m, ie_mm, it_m, it_m0, il_m0, bI_rZ, Option.bind_some, bd2_some, Nat.add_zero, Nat.zero_add, if_true, if_false, Bool.false_eq_true, eq_self, hI_R, hJ_R, ng_t, ng_e, hn, e2, r0, bI_f, bI_t]
  · exact bad (Or.inr ⟨w, w1, rfl, by omega⟩)
