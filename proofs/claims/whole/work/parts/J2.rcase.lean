/-! ===== cases: the reference's whole text ===== -/
theorem r_an1 {k : aH} (kl : LAY k) : f_X12_asNew_l2 113 (nI 0) k = some (wI k 114 (setF (k.2.1 114) 1600 400 (fun _ => nI 0))) := by
  refine for0 (body := fun zz : Int32 × aH => f_X12_asNew_b2 113 zz.1 zz.2) (fun j => (nI j, wI k 114 (setF (k.2.1 114) 1600 j (fun _ => nI 0)))) (400) (e := wI k 114 (setF (k.2.1 114) 1600 400 (fun _ => nI 0))) (by rw [setF_0, wI_self]) (by omega) (fun j hj => ?_) ?_
  · rw [← setF_s, ← hI_set]
    simp (disch := first | assumption | omega | decide | ((repeat first | apply lyI | apply lyJ | apply lywI | apply lywJ | apply csI | apply csJ | apply cswI | apply cswJ); assumption)) only [f_X12_asNew_b2, SM, LI, ↓li_m1, nI_add, pk_mul, nn_sub, nn_m1, nn_div, nn_rem, nn_nz, nn_mod, nJ_l, lN_add, lN_mul, nn_tb1, nI_bt, nn_and, nn_or, nn_xor, nn_shr, nn_1shl, nn_31, il_p, il_n, it_p, it_n, ie_p, ie_n, ie_b, ie_b1, ie_m, ie_mm, it_m, it_m0, il_m0, bI_rZ, Option.bind_some, bd2_some, Nat.add_zero, Nat.zero_add, if_true, if_false, Bool.false_eq_true, eq_self, hI_R, hJ_R, ng_t, ng_e]
  · simp (disch := first | assumption | omega | decide | ((repeat first | apply lyI | apply lyJ | apply lywI | apply lywJ | apply csI | apply csJ | apply cswI | apply cswJ); assumption)) only [f_X12_asNew_b2, SM, LI, ↓li_m1, nI_add, pk_mul, nn_sub, nn_m1, nn_div, nn_rem, nn_nz, nn_mod, nJ_l, lN_add, lN_mul, nn_tb1, nI_bt, nn_and, nn_or, nn_xor, nn_shr, nn_1shl, nn_31, il_p, il_n, it_p, it_n, ie_p, ie_n, ie_b, ie_b1, ie_m, ie_mm, it_m, it_m0, il_m0, bI_rZ, Option.bind_some, bd2_some, Nat.add_zero, Nat.zero_add, if_true, if_false, Bool.false_eq_true, eq_self, hI_R, hJ_R, ng_t, ng_e]
theorem r_an2 {k : aH} (kl : LAY k) : f_X12_asNew_l28 113 (nI 0) k = some (wJ k 115 (setF (k.2.2.1 115) 208 52 (fun _ => (0 : Int64)))) := by
  refine for0 (body := fun zz : Int32 × aH => f_X12_asNew_b28 113 zz.1 zz.2) (fun j => (nI j, wJ k 115 (setF (k.2.2.1 115) 208 j (fun _ => (0 : Int64))))) (52) (e := wJ k 115 (setF (k.2.2.1 115) 208 52 (fun _ => (0 : Int64)))) (by rw [setF_0, wJ_self]) (by omega) (fun j hj => ?_) ?_
  · rw [← setF_s, ← hJ_set]
    simp (disch := first | assumption | omega | decide | ((repeat first | apply lyI | apply lyJ | apply lywI | apply lywJ | apply csI | apply csJ | apply cswI | apply cswJ); assumption)) only [f_X12_asNew_b28, SM, LI, ↓li_m1, nI_add, pk_mul, nn_sub, nn_m1, nn_div, nn_rem, nn_nz, nn_mod, nJ_l, lN_add, lN_mul, nn_tb1, nI_bt, nn_and, nn_or, nn_xor, nn_shr, nn_1shl, nn_31, il_p, il_n, it_p, it_n, ie_p, ie_n, ie_b, ie_b1, ie_m, ie_mm, it_m, it_m0, il_m0, bI_rZ, Option.bind_some, bd2_some, Nat.add_zero, Nat.zero_add, if_true, if_false, Bool.false_eq_true, eq_self, hI_R, hJ_R, ng_t, ng_e]
  · simp (disch := first | assumption | omega | decide | ((repeat first | apply lyI | apply lyJ | apply lywI | apply lywJ | apply csI | apply csJ | apply cswI | apply cswJ); assumption)) only [f_X12_asNew_b28, SM, LI, ↓li_m1, nI_add, pk_mul, nn_sub, nn_m1, nn_div, nn_rem, nn_nz, nn_mod, nJ_l, lN_add, lN_mul, nn_tb1, nI_bt, nn_and, nn_or, nn_xor, nn_shr, nn_1shl, nn_31, il_p, il_n, it_p, it_n, ie_p, ie_n, ie_b, ie_b1, ie_m, ie_mm, it_m, it_m0, il_m0, bI_rZ, Option.bind_some, bd2_some, Nat.add_zero, Nat.zero_add, if_true, if_false, Bool.false_eq_true, eq_self, hI_R, hJ_R, ng_t, ng_e]
theorem r_an3 {k : aH} (kl : LAY k) : f_X12_court_l23 113 (nI 0) k = some (wI k 122 (setF (k.2.1 122) 0 24 (fun _ => nI 0))) := by
  refine for0 (body := fun zz : Int32 × aH => f_X12_court_b23 113 zz.1 zz.2) (fun j => (nI j, wI k 122 (setF (k.2.1 122) 0 j (fun _ => nI 0)))) (24) (e := wI k 122 (setF (k.2.1 122) 0 24 (fun _ => nI 0))) (by rw [setF_0, wI_self]) (by omega) (fun j hj => ?_) ?_
  · rw [← setF_s0, ← hI_set]
    simp (disch := first | assumption | omega | decide | ((repeat first | apply lyI | apply lyJ | apply lywI | apply lywJ | apply csI | apply csJ | apply cswI | apply cswJ); assumption)) only [f_X12_court_b23, SM, LI, ↓li_m1, nI_add, pk_mul, nn_sub, nn_m1, nn_div, nn_rem, nn_nz, nn_mod, nJ_l, lN_add, lN_mul, nn_tb1, nI_bt, nn_and, nn_or, nn_xor, nn_shr, nn_1shl, nn_31, il_p, il_n, it_p, it_n, ie_p, ie_n, ie_b, ie_b1, ie_m, ie_mm, it_m, it_m0, il_m0, bI_rZ, Option.bind_some, bd2_some, Nat.add_zero, Nat.zero_add, if_true, if_false, Bool.false_eq_true, eq_self, hI_R, hJ_R, ng_t, ng_e]
  · simp (disch := first | assumption | omega | decide | ((repeat first | apply lyI | apply lyJ | apply lywI | apply lywJ | apply csI | apply csJ | apply cswI | apply cswJ); assumption)) only [f_X12_court_b23, SM, LI, ↓li_m1, nI_add, pk_mul, nn_sub, nn_m1, nn_div, nn_rem, nn_nz, nn_mod, nJ_l, lN_add, lN_mul, nn_tb1, nI_bt, nn_and, nn_or, nn_xor, nn_shr, nn_1shl, nn_31, il_p, il_n, it_p, it_n, ie_p, ie_n, ie_b, ie_b1, ie_m, ie_mm, it_m, it_m0, il_m0, bI_rZ, Option.bind_some, bd2_some, Nat.add_zero, Nat.zero_add, if_true, if_false, Bool.false_eq_true, eq_self, hI_R, hJ_R, ng_t, ng_e]
/-- asNew -/
def anH (k : aH) : aH := hJ (hI (hI (wJ (wI k 114 (setF (k.2.1 114) 1600 400 (fun _ => nI 0))) 115 (setF (k.2.2.1 115) 208 52 (fun _ => (0 : Int64)))) 114 1602 (nI 1)) 114 1607 m1) 115 208 1
theorem r_asNew {k : aH} (kl : LAY k) : f_X12_asNew k 113 = some (anH k) := by
  let k1 := wI k 114 (setF (k.2.1 114) 1600 400 (fun _ => nI 0))
  have l1 : LAY k1 := kl
  have e1 : f_X12_asNew_l2 113 (nI 0) k = some k1 := r_an1 kl
  have e2 : f_X12_asNew_l28 113 (nI 0) k1 = some (wJ k1 115 (setF (k.2.2.1 115) 208 52 (fun _ => (0 : Int64)))) := r_an2 l1
  have l2 : LAY (wJ k1 115 (setF (k.2.2.1 115) 208 52 (fun _ => (0 : Int64)))) := kl
  show _ = some (hJ (hI (hI (wJ k1 115 (setF (k.2.2.1 115) 208 52 (fun _ => (0 : Int64)))) 114 1602 (nI 1)) 114 1607 m1) 115 208 1)
  simp (disch := first | assumption | omega | decide | ((repeat first | apply lyI | apply lyJ | apply lywI | apply lywJ | apply csI | apply csJ | apply cswI | apply cswJ); assumption)) only [f_X12_asNew, SM, LI, ↓li_m1, nI_add, pk_mul, nn_sub, nn_m1, nn_div, nn_rem, nn_nz, nn_mod, nJ_l, lN_add, lN_mul, nn_tb1, nI_bt, nn_and, nn_or, nn_xor, nn_shr, nn_1shl, nn_31, il_p, il_n, it_p, it_n, ie_p, ie_n, ie_b, ie_b1, ie_m, ie_mm, it_m, it_m0, il_m0, bI_rZ, Option.bind_some, bd2_some, Nat.add_zero, Nat.zero_add, if_true, if_false, Bool.false_eq_true, eq_self, hI_R, hJ_R, ng_t, ng_e, e1, e2]
theorem an_4 {k : aH} {x : Nat} : (anH k).2.1 114 x = if x = 1607 then m1 else if x = 1602 then nI 1 else if 1600 ≤ x ∧ x < 2000 then nI 0 else k.2.1 114 x := by
  show (hI (hI (wJ (wI k 114 (setF (k.2.1 114) 1600 400 (fun _ => nI 0))) 115 (setF (k.2.2.1 115) 208 52 (fun _ => (0 : Int64)))) 114 1602 (nI 1)) 114 1607 m1).2.1 114 x = _
  by_cases e1 : x = 1607
  · rw [if_pos e1, e1, rI_eq]
  · rw [if_neg e1, rI_nk e1]
    by_cases e2 : x = 1602
    · rw [if_pos e2, e2, rI_eq]
    · rw [if_neg e2, rI_nk e2, wJ_I, wI_s]
      unfold setF
      by_cases e3 : 1600 ≤ x ∧ x < 2000
      · rw [if_pos e3, if_pos e3]
      · rw [if_neg e3, if_neg e3]
theorem an_5 {k : aH} {x : Nat} : (anH k).2.2.1 115 x = if x = 208 then 1 else if 208 ≤ x ∧ x < 260 then 0 else k.2.2.1 115 x := by
  show (hJ (wJ (wI k 114 (setF (k.2.1 114) 1600 400 (fun _ => nI 0))) 115 (setF (k.2.2.1 115) 208 52 (fun _ => (0 : Int64)))) 115 208 1).2.2.1 115 x = _
  by_cases e1 : x = 208
  · rw [if_pos e1, e1, rJ_eq]
  · rw [if_neg e1, rJ_nk e1, wJ_s]
    unfold setF
    by_cases e3 : 208 ≤ x ∧ x < 260
    · rw [if_pos e3, if_pos e3]
    · rw [if_neg e3, if_neg e3]
theorem an_f {k : aH} : FR k (anH k) [114] [115] [] [] := ((((FR.wI (by decide) (by decide) (by decide)).tr (FR.wJ (by decide))).tr (FR.hI (by decide) (by decide) (by decide))).tr (FR.hI (by decide) (by decide) (by decide))).tr (FR.hJ (by decide))
theorem r_nw0 {k : aH} {T : Nat → Nat} {n : Nat} (rc : RC k T n 0) : ∃ k', f_X12_court_l23 113 (nI 0) (anH k) = some k' ∧ DR k k' T n 0 A00 V00 B00 Q00 := by
  have kl := rc.1
  have l1 : LAY (anH k) := kl
  let k2 := wI (anH k) 122 (setF ((anH k).2.1 122) 0 24 (fun _ => nI 0))
  have f2 : FR (anH k) k2 [122] [] [] [] := FR.wI (by decide) (by decide) (by decide)
  have fz : FR k k2 [114, 122] [115] [] [] := (an_f.mono (by decide) (by decide) (by decide) (by decide)).tr (f2.mono (by decide) (by decide) (by decide) (by decide))
  have e4 : k2.2.1 114 = (anH k).2.1 114 := f2.I 114 (by decide) (by decide) (by decide)
  have e5 : k2.2.2.1 115 = (anH k).2.2.1 115 := f2.J 115 (by decide)
  refine ⟨k2, r_an3 l1, ⟨fz.mono (by decide) (by decide) (by decide) (by decide), fun x hx => ?_, fun x hx => ?_, fun x hx => by rw [fz.J 116 (by decide)]⟩, rc_fr fz (by decide) (by decide) rc, fun s j hs hj => ?_, fun x hx h7 => ?_, ⟨?_, fun x h1 h2 => ?_⟩, fun v hv => ?_, fun h => absurd h (by decide), fun q w hq hw => ?_⟩
  · rw [e4, an_4, if_neg (by omega), if_neg (by omega), if_neg (by omega)]
  · rw [e5, an_5, if_neg (by omega), if_neg (by omega)]
  · have : cA A00 s = 0 := by rcases lt4 hs with rfl | rfl | rfl | rfl <;> rfl
    omega
  · rw [e4, an_4, if_neg (by omega)]
    unfold A00
    by_cases e : x = 2
    · rw [if_pos (by omega), if_pos e]
    · rw [if_neg (by omega), if_pos (by omega), if_neg e]
  · rw [e4, an_4, if_pos rfl]
  · rw [e4, an_4, if_neg (by omega), if_neg (by omega), if_pos (by omega)]
  · show (wI (anH k) 122 (setF ((anH k).2.1 122) 0 24 (fun _ => nI 0))).2.1 122 v = _
    rw [wI_s, setF_in0 hv]
    rfl
  · rw [e5, an_5, if_neg (by omega), if_pos (by omega), show (0 : Int64).toBitVec = 0#64 from rfl, BitVec.getLsbD_zero]
    rfl
/-- takes -/
def tkH (k : aH) : aH := wJ (wJ (wI k 114 (setF (k.2.1 114) 0 400 (fun x => k.2.1 114 (1600 + x)))) 115 (setF (k.2.2.1 115) 0 52 (fun x => k.2.2.1 115 (208 + x)))) 116 (setF (k.2.2.1 116) 0 44 (fun x => k.2.2.1 116 (176 + x)))
theorem r_tk {k : aH} (kl : LAY k) : f_X12_takes k 113 = (f_X12_laysAnswers (tkH k) 113).bind fun h19 => some h19 := by
  have e1 : f_X12_takes_l2 113 (nI 0) k = some (wI k 114 (setF (k.2.1 114) 0 400 (fun x => k.2.1 114 (1600 + x)))) := by
    refine for0 (body := fun zz : Int32 × aH => f_X12_takes_b2 113 zz.1 zz.2) (fun j => (nI j, wI k 114 (setF (k.2.1 114) 0 j (fun x => k.2.1 114 (1600 + x))))) (400) (e := wI k 114 (setF (k.2.1 114) 0 400 (fun x => k.2.1 114 (1600 + x)))) (by rw [setF_0, wI_self]) (by omega) (fun j hj => ?_) ?_
    · rw [← setF_s0, ← hI_set]
      have rd : (wI k 114 (setF (k.2.1 114) 0 j (fun x => k.2.1 114 (1600 + x)))).2.1 114 (1600 + j) = k.2.1 114 (1600 + j) := by rw [wI_s, setF_out (by omega)]
      simp (disch := first | assumption | omega | decide | ((repeat first | apply lyI | apply lyJ | apply lywI | apply lywJ | apply csI | apply csJ | apply cswI | apply cswJ); assumption)) only [f_X12_takes_b2, SM, LI, ↓li_m1, nI_add, pk_mul, nn_sub, nn_m1, nn_div, nn_rem, nn_nz, nn_mod, nJ_l, lN_add, lN_mul, nn_tb1, nI_bt, nn_and, nn_or, nn_xor, nn_shr, nn_1shl, nn_31, il_p, il_n, it_p, it_n, ie_p, ie_n, ie_b, ie_b1, ie_m, ie_mm, it_m, it_m0, il_m0, bI_rZ, Option.bind_some, bd2_some, Nat.add_zero, Nat.zero_add, if_true, if_false, Bool.false_eq_true, eq_self, hI_R, hJ_R, ng_t, ng_e, rd]
    · simp (disch := first | assumption | omega | decide | ((repeat first | apply lyI | apply lyJ | apply lywI | apply lywJ | apply csI | apply csJ | apply cswI | apply cswJ); assumption)) only [f_X12_takes_b2, SM, LI, ↓li_m1, nI_add, pk_mul, nn_sub, nn_m1, nn_div, nn_rem, nn_nz, nn_mod, nJ_l, lN_add, lN_mul, nn_tb1, nI_bt, nn_and, nn_or, nn_xor, nn_shr, nn_1shl, nn_31, il_p, il_n, it_p, it_n, ie_p, ie_n, ie_b, ie_b1, ie_m, ie_mm, it_m, it_m0, il_m0, bI_rZ, Option.bind_some, bd2_some, Nat.add_zero, Nat.zero_add, if_true, if_false, Bool.false_eq_true, eq_self, hI_R, hJ_R, ng_t, ng_e]
  have e2 : ∀ k : aH, LAY k → f_X12_takes_l33 113 (nI 0) k = some (wJ k 115 (setF (k.2.2.1 115) 0 52 (fun x => k.2.2.1 115 (208 + x)))) := fun k kl => by
    refine for0 (body := fun zz : Int32 × aH => f_X12_takes_b33 113 zz.1 zz.2) (fun j => (nI j, wJ k 115 (setF (k.2.2.1 115) 0 j (fun x => k.2.2.1 115 (208 + x))))) (52) (e := wJ k 115 (setF (k.2.2.1 115) 0 52 (fun x => k.2.2.1 115 (208 + x)))) (by rw [setF_0, wJ_self]) (by omega) (fun j hj => ?_) ?_
    · rw [← setF_s0, ← hJ_set]
      have rd : (wJ k 115 (setF (k.2.2.1 115) 0 j (fun x => k.2.2.1 115 (208 + x)))).2.2.1 115 (208 + j) = k.2.2.1 115 (208 + j) := by rw [wJ_s, setF_out (by omega)]
      simp (disch := first | assumption | omega | decide | ((repeat first | apply lyI | apply lyJ | apply lywI | apply lywJ | apply csI | apply csJ | apply cswI | apply cswJ); assumption)) only [f_X12_takes_b33, SM, LI, ↓li_m1, nI_add, pk_mul, nn_sub, nn_m1, nn_div, nn_rem, nn_nz, nn_mod, nJ_l, lN_add, lN_mul, nn_tb1, nI_bt, nn_and, nn_or, nn_xor, nn_shr, nn_1shl, nn_31, il_p, il_n, it_p, it_n, ie_p, ie_n, ie_b, ie_b1, ie_m, ie_mm, it_m, it_m0, il_m0, bI_rZ, Option.bind_some, bd2_some, Nat.add_zero, Nat.zero_add, if_true, if_false, Bool.false_eq_true, eq_self, hI_R, hJ_R, ng_t, ng_e, rd]
    · simp (disch := first | assumption | omega | decide | ((repeat first | apply lyI | apply lyJ | apply lywI | apply lywJ | apply csI | apply csJ | apply cswI | apply cswJ); assumption)) only [f_X12_takes_b33, SM, LI, ↓li_m1, nI_add, pk_mul, nn_sub, nn_m1, nn_div, nn_rem, nn_nz, nn_mod, nJ_l, lN_add, lN_mul, nn_tb1, nI_bt, nn_and, nn_or, nn_xor, nn_shr, nn_1shl, nn_31, il_p, il_n, it_p, it_n, ie_p, ie_n, ie_b, ie_b1, ie_m, ie_mm, it_m, it_m0, il_m0, bI_rZ, Option.bind_some, bd2_some, Nat.add_zero, Nat.zero_add, if_true, if_false, Bool.false_eq_true, eq_self, hI_R, hJ_R, ng_t, ng_e]
  have e3 : ∀ k : aH, LAY k → f_X12_takes_l63 113 (nI 0) k = some (wJ k 116 (setF (k.2.2.1 116) 0 44 (fun x => k.2.2.1 116 (176 + x)))) := fun k kl => by
    refine for0 (body := fun zz : Int32 × aH => f_X12_takes_b63 113 zz.1 zz.2) (fun j => (nI j, wJ k 116 (setF (k.2.2.1 116) 0 j (fun x => k.2.2.1 116 (176 + x))))) (44) (e := wJ k 116 (setF (k.2.2.1 116) 0 44 (fun x => k.2.2.1 116 (176 + x)))) (by rw [setF_0, wJ_self]) (by omega) (fun j hj => ?_) ?_
    · rw [← setF_s0, ← hJ_set]
      have rd : (wJ k 116 (setF (k.2.2.1 116) 0 j (fun x => k.2.2.1 116 (176 + x)))).2.2.1 116 (176 + j) = k.2.2.1 116 (176 + j) := by rw [wJ_s, setF_out (by omega)]
      simp (disch := first | assumption | omega | decide | ((repeat first | apply lyI | apply lyJ | apply lywI | apply lywJ | apply csI | apply csJ | apply cswI | apply cswJ); assumption)) only [f_X12_takes_b63, SM, LI, ↓li_m1, nI_add, pk_mul, nn_sub, nn_m1, nn_div, nn_rem, nn_nz, nn_mod, nJ_l, lN_add, lN_mul, nn_tb1, nI_bt, nn_and, nn_or, nn_xor, nn_shr, nn_1shl, nn_31, il_p, il_n, it_p, it_n, ie_p, ie_n, ie_b, ie_b1, ie_m, ie_mm, it_m, it_m0, il_m0, bI_rZ, Option.bind_some, bd2_some, Nat.add_zero, Nat.zero_add, if_true, if_false, Bool.false_eq_true, eq_self, hI_R, hJ_R, ng_t, ng_e, rd]
    · simp (disch := first | assumption | omega | decide | ((repeat first | apply lyI | apply lyJ | apply lywI | apply lywJ | apply csI | apply csJ | apply cswI | apply cswJ); assumption)) only [f_X12_takes_b63, SM, LI, ↓li_m1, nI_add, pk_mul, nn_sub, nn_m1, nn_div, nn_rem, nn_nz, nn_mod, nJ_l, lN_add, lN_mul, nn_tb1, nI_bt, nn_and, nn_or, nn_xor, nn_shr, nn_1shl, nn_31, il_p, il_n, it_p, it_n, ie_p, ie_n, ie_b, ie_b1, ie_m, ie_mm, it_m, it_m0, il_m0, bI_rZ, Option.bind_some, bd2_some, Nat.add_zero, Nat.zero_add, if_true, if_false, Bool.false_eq_true, eq_self, hI_R, hJ_R, ng_t, ng_e]
  have l4 : LAY (tkH k) := kl
  have c4 : ck (tkH k) 12 113 = some () := (SM (tkH k) l4).1
  have q2 := e2 (wI k 114 (setF (k.2.1 114) 0 400 (fun x => k.2.1 114 (1600 + x)))) kl
  have q3 : f_X12_takes_l63 113 (nI 0) (wJ (wI k 114 (setF (k.2.1 114) 0 400 (fun x => k.2.1 114 (1600 + x)))) 115 (setF (k.2.2.1 115) 0 52 (fun x => k.2.2.1 115 (208 + x)))) = some (tkH k) := e3 _ kl
  unfold f_X12_takes
  rw [show (0 : Int32) = nI 0 from rfl, e1, Option.bind_some]
  rw [show f_X12_takes_l33 113 (nI 0) (wI k 114 (setF (k.2.1 114) 0 400 (fun x => k.2.1 114 (1600 + x)))) = some (wJ (wI k 114 (setF (k.2.1 114) 0 400 (fun x => k.2.1 114 (1600 + x)))) 115 (setF (k.2.2.1 115) 0 52 (fun x => k.2.2.1 115 (208 + x)))) from q2, Option.bind_some, q3, Option.bind_some, c4, Option.bind_some]
theorem tk_f {k : aH} : FR k (tkH k) [114] [115, 116] [] [] := ((FR.wI (by decide) (by decide) (by decide)).tr (FR.wJ (by decide))).tr (FR.wJ (by decide))
theorem tk_4 {k : aH} {x : Nat} : (tkH k).2.1 114 x = if x < 400 then k.2.1 114 (1600 + x) else k.2.1 114 x := by
  show (wI k 114 (setF (k.2.1 114) 0 400 (fun x => k.2.1 114 (1600 + x)))).2.1 114 x = _
  rw [wI_s]
  by_cases e : x < 400
  · rw [if_pos e, setF_in0 e]
  · rw [if_neg e, setF_out (by omega)]
theorem tk_5 {k : aH} {x : Nat} : (tkH k).2.2.1 115 x = if x < 52 then k.2.2.1 115 (208 + x) else k.2.2.1 115 x := by
  show (wJ (wJ (wI k 114 (setF (k.2.1 114) 0 400 (fun x => k.2.1 114 (1600 + x)))) 115 (setF (k.2.2.1 115) 0 52 (fun x => k.2.2.1 115 (208 + x)))) 116 (setF (k.2.2.1 116) 0 44 (fun x => k.2.2.1 116 (176 + x)))).2.2.1 115 x = _
  rw [wJ_n (by decide), wJ_s]
  by_cases e : x < 52
  · rw [if_pos e, setF_in0 e]
  · rw [if_neg e, setF_out (by omega)]
theorem tk_6 {k : aH} {x : Nat} : (tkH k).2.2.1 116 x = if x < 44 then k.2.2.1 116 (176 + x) else k.2.2.1 116 x := by
  show (wJ (wJ (wI k 114 (setF (k.2.1 114) 0 400 (fun x => k.2.1 114 (1600 + x)))) 115 (setF (k.2.2.1 115) 0 52 (fun x => k.2.2.1 115 (208 + x)))) 116 (setF (k.2.2.1 116) 0 44 (fun x => k.2.2.1 116 (176 + x)))).2.2.1 116 x = _
  rw [wJ_s]
  by_cases e : x < 44
  · rw [if_pos e, setF_in0 e]
  · rw [if_neg e, setF_out (by omega)]
def CF1 : List Nat := [3, 11, 12, 13, 14, 15, 16, 17, 18, 19, 20, 21, 25, 26, 27]
/-- all but the present slot and the new one stays -/
def KLo (k k' : aH) (lo : Nat) : Prop := (∀ x, 400 * lo ≤ x → x < 1600 → k'.2.1 114 x = k.2.1 114 x) ∧ (∀ x, 52 * lo ≤ x → x < 208 → k'.2.2.1 115 x = k.2.2.1 115 x) ∧ ∀ x, 44 * lo ≤ x → x < 176 → k'.2.2.1 116 x = k.2.2.1 116 x
def RCr (o : OE) : Int32 := match o with
  | .inl _ => m1
  | .inr (_, A, _, Bv, _) => nI (cntB (cnP A Bv) (A 2))
def RCo (k k' : aH) (o : OE) : Prop := match o with
  | .inl (f, q) => FR k k' [114, 121, 122, 124] [115, 116, 123] [] CF1 ∧ KLo k k' 0 ∧ k'.2.1 113 3 = nI 9 ∧ k'.2.1 113 17 = nI f ∧ k'.2.1 113 18 = nI q ∧ k'.2.1 113 11 = nI 0
  | .inr (_, A, V, Bv, Q) => FR k k' [114, 121, 122, 124, 126] [115, 116, 123, 127, 128] [] CF1 ∧ KLo k k' 1 ∧ CM k' A (cnP A Bv) Q ∧ SY k' A (cnP A Bv) (anS A (cnP A Bv) Q) ∧ NRe k' 0 (cA A) V ∧ (k'.2.1 114 5 = nI 0 ∧ k'.2.1 114 6 = nI 0 ∧ k'.2.1 114 7 = m1) ∧ k'.2.1 113 3 = nI 0 ∧ k'.2.1 113 17 = nI 0 ∧ k'.2.1 113 18 = m1 ∧ k'.2.1 113 11 = nI 0
theorem cm_lo {k k' : aH} {A : Nat → Nat} {P : Nat → Bool} {Q : Nat → Nat → Bool} (e4 : ∀ x, x < 1600 → k'.2.1 114 x = k.2.1 114 x) (e5 : ∀ x, x < 208 → k'.2.2.1 115 x = k.2.2.1 115 x) (c : CM k A P Q) : CM k' A P Q := by
  obtain ⟨c1, c2, c3⟩ := c
  refine ⟨fun x hx h5 h6 h7 => ?_, fun w hw => ?_, fun q w hq hw => ?_⟩
  · rw [e4 _ (by omega)]
    exact c1 x hx h5 h6 h7
  · rw [e5 _ (by omega)]
    exact c2 w hw
  · rw [e5 _ (by omega)]
    exact c3 q w hq hw
theorem r_court {k : aH} (kl : LAY k) {T : Nat → Nat} (tb : ∀ j, T j < 256) (t120 : ∀ j, k.2.1 120 j = bS (T j)) {n t : Nat} (e11 : k.2.1 113 11 = nI t) (hn : n ≤ t) (ht : t ≤ 900) {A0 : Nat → Nat} {P0 : Nat → Bool} {Q0 : Nat → Nat → Bool} (cm : CM k A0 P0 Q0) (wf0 : WF A0) {o : OE} (of : ∀ f q, o = .inl (f, q) → f ≠ 0 ∧ f < 100) (od : ∀ i A V Bv Q, o = .inr (i, A, V, Bv, Q) → DV A V Bv Q) (hr : ∀ k0 k, DR k0 k T n 0 A00 V00 B00 Q00 → OEr k0 T n (f_X12_court_l44 113 (nI 1) k) o) : ∃ k', f_X12_court k 113 (nI n) = some (RCr o, k') ∧ RCo k k' o := by
  obtain ⟨k1, e1, f1, rc1⟩ := r_begins kl tb t120 e11 hn ht (mo := 900) (by omega) (by decide)
  have l1 := rc1.1
  have e2 := r_asNew l1
  obtain ⟨k3, e3, d3⟩ := r_nw0 rc1
  have l2 : LAY (anH k1) := l1
  have lp := hr k1 k3 d3
  have head : ∀ k4, f_X12_court_l44 113 (nI 1) k3 = some k4 → f_X12_court k 113 (nI n) = f_X12_court_j63 k4 113 := fun k4 h4 => by
    simp (disch := first | assumption | omega | decide | ((repeat first | apply lyI | apply lyJ | apply lywI | apply lywJ | apply csI | apply csJ | apply cswI | apply cswJ); assumption)) only [f_X12_court, SM, LI, ↓li_m1, nI_add, pk_mul, nn_sub, nn_m1, nn_div, nn_rem, nn_nz, nn_mod, nJ_l, lN_add, lN_mul, nn_tb1, nI_bt, nn_and, nn_or, nn_xor, nn_shr, nn_1shl, nn_31, il_p, il_n, it_p, it_n, ie_p, ie_n, ie_b, ie_b1, ie_m, ie_mm, it_m, it_m0, il_m0, bI_rZ, Option.bind_some, bd2_some, Nat.add_zero, Nat.zero_add, if_true, if_false, Bool.false_eq_true, eq_self, hI_R, hJ_R, ng_t, ng_e, e1, e2, e3, h4]
  rcases o with ⟨f, q⟩ | ⟨i, A, V, Bv, Q⟩
  · obtain ⟨f0, f9⟩ := of f q rfl
    obtain ⟨k4, e4, ⟨p1, p2, p3, p4⟩, l4, y19, y18, y11⟩ := lp
    have nf : ¬ nI f = nI 0 := d_ne (by omega) (by decide) f0
    have a4 : ∀ x, x < 1600 → k4.2.1 114 x = k.2.1 114 x := fun x hx => (p2 x hx).trans (by rw [f1.I 114 (by decide) (by decide) (by decide)])
    have a5 : ∀ x, x < 208 → k4.2.2.1 115 x = k.2.2.1 115 x := fun x hx => (p3 x hx).trans (by rw [f1.J 115 (by decide)])
    have a6 : ∀ x, x < 176 → k4.2.2.1 116 x = k.2.2.1 116 x := fun x hx => (p4 x hx).trans (by rw [f1.J 116 (by decide)])
    have sz := r_size l4 (cm_lo a4 a5 cm) wf0
    have tk := r_taken l4 y19 f9 (nI (cntB P0 (A0 2)))
    rw [if_neg f0] at tk
    have fz : FR k (hI (hI k4 113 17 (nI f)) 113 3 (nI 9)) [114, 121, 122, 124] [115, 116, 123] [] CF1 := (((f1.mono (by decide) (by decide) (by decide) (by decide)).tr (p1.mono (by decide) (by decide) (by decide) (by decide))).tr (fr_1 (by decide))).tr (fr_1 (by decide))
    refine ⟨hI (hI k4 113 17 (nI f)) 113 3 (nI 9), ?_, fz, ⟨fun x _ hx => a4 x hx, fun x _ hx => a5 x hx, fun x _ hx => a6 x hx⟩, rI_eq, ?_, ?_, ?_⟩
    · rw [head k4 e4]
      show _ = some (m1, _)
      simp (disch := first | assumption | omega | decide | ((repeat first | apply lyI | apply lyJ | apply lywI | apply lywJ | apply csI | apply csJ | apply cswI | apply cswJ); assumption)) only [f_X12_court_j63, f_X12_court_j89, SM, LI, ↓li_m1, nI_add, pk_mul, nn_sub, nn_m1, nn_div, nn_rem, nn_nz, nn_mod, nJ_l, lN_add, lN_mul, nn_tb1, nI_bt, nn_and, nn_or, nn_xor, nn_shr, nn_1shl, nn_31, il_p, il_n, it_p, it_n, ie_p, ie_n, ie_b, ie_b1, ie_m, ie_mm, it_m, it_m0, il_m0, bI_rZ, Option.bind_some, bd2_some, Nat.add_zero, Nat.zero_add, if_true, if_false, Bool.false_eq_true, eq_self, hI_R, hJ_R, ng_t, ng_e, y19, if_neg nf, sz, tk]
    · rw [rI_nk (by decide), rI_eq]
    · rw [rI_nk (by decide), rI_nk (by decide)]
      exact y18
    · rw [rI_nk (by decide), rI_nk (by decide)]
      exact y11
  · have dv := od i A V Bv Q rfl
    obtain ⟨wf, nv, a2, bb, -, zq, zz, vf, sq⟩ := id dv
    obtain ⟨b0, b1, b2l, b2, b3, b4⟩ := wf_b wf
    obtain ⟨k4, e4, d4⟩ := lp
    have l4 := d4.2.1.1
    have y19 : k4.2.1 113 19 = nI 0 := d4.2.1.2.2.1
    have q3 : k4.2.1 114 1603 = nI (A 3) := d4.2.2.2.1 3 (by decide) (by decide)
    /- the worlds that can be, if they were not found before -/
    have fd : ∃ k5, f_X12_court_j63 k4 113 = f_X12_court_j85 k5 113 ∧ FR k4 k5 [] [115] [] [] ∧ (∀ x, x < 208 ∨ 212 ≤ x → k5.2.2.1 115 x = k4.2.2.1 115 x) ∧ ∀ w, w < 256 → (k5.2.2.1 115 (208 + w / 64)).toBitVec.getLsbD (w % 64) = cnP A Bv w := by
      by_cases z3 : A 3 = 0
      · rw [z3] at q3
        obtain ⟨k5, e5, f5, o5, c5⟩ := r_finds l4 (A := A) (Bv := Bv) (fun x hx h3 => d4.2.2.2.1 x (by omega) (by omega)) wf d4.2.2.2.2.2.1 bb
        exact ⟨k5, by simp (disch := first | assumption | omega | decide | ((repeat first | apply lyI | apply lyJ | apply lywI | apply lywJ | apply csI | apply csJ | apply cswI | apply cswJ); assumption)) only [f_X12_court_j63, SM, LI, ↓li_m1, nI_add, pk_mul, nn_sub, nn_m1, nn_div, nn_rem, nn_nz, nn_mod, nJ_l, lN_add, lN_mul, nn_tb1, nI_bt, nn_and, nn_or, nn_xor, nn_shr, nn_1shl, nn_31, il_p, il_n, it_p, it_n, ie_p, ie_n, ie_b, ie_b1, ie_m, ie_mm, it_m, it_m0, il_m0, bI_rZ, Option.bind_some, bd2_some, Nat.add_zero, Nat.zero_add, if_true, if_false, Bool.false_eq_true, eq_self, hI_R, hJ_R, ng_t, ng_e, y19, q3, e5], f5, o5, c5⟩
      · have n3 : ¬ nI (A 3) = nI 0 := d_ne (by omega) (by decide) z3
        exact ⟨k4, by simp (disch := first | assumption | omega | decide | ((repeat first | apply lyI | apply lyJ | apply lywI | apply lywJ | apply csI | apply csJ | apply cswI | apply cswJ); assumption)) only [f_X12_court_j63, SM, LI, ↓li_m1, nI_add, pk_mul, nn_sub, nn_m1, nn_div, nn_rem, nn_nz, nn_mod, nJ_l, lN_add, lN_mul, nn_tb1, nI_bt, nn_and, nn_or, nn_xor, nn_shr, nn_1shl, nn_31, il_p, il_n, it_p, it_n, ie_p, ie_n, ie_b, ie_b1, ie_m, ie_mm, it_m, it_m0, il_m0, bI_rZ, Option.bind_some, bd2_some, Nat.add_zero, Nat.zero_add, if_true, if_false, Bool.false_eq_true, eq_self, hI_R, hJ_R, ng_t, ng_e, y19, q3, if_neg n3], FR.rf, fun _ _ => rfl, d4.2.2.2.2.2.2.1 (by omega)⟩
    obtain ⟨k5, e5, f5, o5, c5⟩ := fd
    have l5 := f5.lay l4
    have a5 : k5.2.1 114 = k4.2.1 114 := f5.I 114 (by decide) (by decide) (by decide)
    have l6 : LAY (tkH k5) := l5
    have cm6 : CM (tkH k5) A (cnP A Bv) Q := by
      refine ⟨fun x hx h5 h6 h7 => ?_, fun w hw => ?_, fun q w hq hw => ?_⟩
      · rw [Nat.zero_add, tk_4, if_pos (by omega), a5]
        exact d4.2.2.2.1 x hx h7
      · rw [Nat.zero_add, tk_5, if_pos (by omega)]
        exact c5 w hw
      · rw [tk_5, if_pos (by omega), show 208 + (0 + 4 + 4 * q + w / 64) = 212 + 4 * q + w / 64 by omega, o5 _ (by omega)]
        exact d4.2.2.2.2.2.2.2 q w hq hw
    obtain ⟨k7, e7, f7, sy7⟩ := r_lays l6 cm6 wf (wp_dv dv).2.1
    have l7 := f7.lay l6
    have cm7 := cm_fr f7 (by decide) (by decide) cm6
    have sz := r_size l7 cm7 wf
    have ft : FR k4 k7 [114, 126] [115, 116, 127, 128] [] [] := ((f5.mono (by decide) (by decide) (by decide) (by decide)).tr (tk_f.mono (by decide) (by decide) (by decide) (by decide))).tr (f7.mono (by decide) (by decide) (by decide) (by decide))
    have y19' : k7.2.1 113 19 = nI 0 := (ft.2.2.2.2.2 19 (by decide)).trans y19
    have tk := r_taken l7 y19' (by decide) (nI (cntB (cnP A Bv) (A 2)))
    rw [if_pos rfl] at tk
    have tks : f_X12_takes k5 113 = some k7 := by rw [r_tk l5, e7]; rfl
    obtain ⟨p1, p2, p3, p4⟩ := d4.1
    have fz : FR k (hI (hI k7 113 17 (nI 0)) 113 3 (nI 0)) [114, 121, 122, 124, 126] [115, 116, 123, 127, 128] [] CF1 := ((((f1.mono (by decide) (by decide) (by decide) (by decide)).tr (p1.mono (by decide) (by decide) (by decide) (by decide))).tr (ft.mono (by decide) (by decide) (by decide) (by decide))).tr (fr_1 (by decide))).tr (fr_1 (by decide))
    have z4 : ∀ x, k7.2.1 114 x = (tkH k5).2.1 114 x := fun x => by rw [f7.I 114 (by decide) (by decide) (by decide)]
    have z5 : ∀ x, k7.2.2.1 115 x = (tkH k5).2.2.1 115 x := fun x => by rw [f7.J 115 (by decide)]
    have z6 : ∀ x, k7.2.2.1 116 x = (tkH k5).2.2.1 116 x := fun x => by rw [f7.J 116 (by decide)]
    refine ⟨hI (hI k7 113 17 (nI 0)) 113 3 (nI 0), ?_, fz, ⟨fun x h1 h2 => ?_, fun x h1 h2 => ?_, fun x h1 h2 => ?_⟩, cm7, sy7, fun s j hs hj => ?_, ⟨?_, ?_, ?_⟩, rI_eq, ?_, ?_, ?_⟩
    · rw [head k4 e4, e5]
      show _ = some (nI (cntB (cnP A Bv) (A 2)), _)
      simp (disch := first | assumption | omega | decide | ((repeat first | apply lyI | apply lyJ | apply lywI | apply lywJ | apply csI | apply csJ | apply cswI | apply cswJ); assumption)) only [f_X12_court_j85, f_X12_court_j89, SM, LI, ↓li_m1, nI_add, pk_mul, nn_sub, nn_m1, nn_div, nn_rem, nn_nz, nn_mod, nJ_l, lN_add, lN_mul, nn_tb1, nI_bt, nn_and, nn_or, nn_xor, nn_shr, nn_1shl, nn_31, il_p, il_n, it_p, it_n, ie_p, ie_n, ie_b, ie_b1, ie_m, ie_mm, it_m, it_m0, il_m0, bI_rZ, Option.bind_some, bd2_some, Nat.add_zero, Nat.zero_add, if_true, if_false, Bool.false_eq_true, eq_self, hI_R, hJ_R, ng_t, ng_e, tks, sz, tk]
    · show k7.2.1 114 x = _
      rw [z4, tk_4, if_neg (by omega), a5, p2 x h2, f1.I 114 (by decide) (by decide) (by decide)]
    · show k7.2.2.1 115 x = _
      rw [z5, tk_5, if_neg (by omega), o5 x (Or.inl h2), p3 x h2, f1.J 115 (by decide)]
    · show k7.2.2.1 116 x = _
      rw [z6, tk_6, if_neg (by omega), f5.J 116 (by decide), p4 x h2, f1.J 116 (by decide)]
    · show k7.2.2.1 116 (0 + (nbN s + j)) = _
      have b44 : nbN s + j < 44 := by
        have := (nb_b nv hs).1
        omega
      rw [Nat.zero_add, z6, tk_6, if_pos b44, f5.J 116 (by decide)]
      exact d4.2.2.1 s j hs hj
    · show k7.2.1 114 5 = _
      rw [z4, tk_4, if_pos (by decide), a5, d4.2.2.2.1 5 (by decide) (by decide), zz.1]
    · show k7.2.1 114 6 = _
      rw [z4, tk_4, if_pos (by decide), a5, d4.2.2.2.1 6 (by decide) (by decide), zz.2]
    · show k7.2.1 114 7 = _
      rw [z4, tk_4, if_pos (by decide), a5]
      exact d4.2.2.2.2.1.1
    · rw [rI_nk (by decide), rI_eq]
    · rw [rI_nk (by decide), rI_nk (by decide), ft.2.2.2.2.2 18 (by decide)]
      exact d4.2.1.2.2.2.1
    · rw [rI_nk (by decide), rI_nk (by decide), ft.2.2.2.2.2 11 (by decide)]
      exact d4.2.1.2.2.2.2
