/-! ===== plans: the reference reads a part ===== -/
def G30 : List Nat := [13, 14, 15, 16, 18, 19, 21, 29, 30]
def ORp (k0 : aH) (T : Nat → Nat) (n : Nat) (C : Nat → Nat) (V : Nat → List Nat) (N : Nat) (x : Option (Int32 × aH)) (o : (Nat × Nat) ⊕ (Nat × (Nat → Nat → Nat) × Nat × (Nat → Nat))) : Prop := match o with
  | .inl (f, q) => ∃ k', x = some (nI 0, k') ∧ (FR k0 k' [114, 125] [] [] G30 ∧ ∀ x, x < 1607 → k'.2.1 114 x = k0.2.1 114 x) ∧ RLx k' f q
  | .inr (i', K', dp', op') => ∃ k', x = some (nI 1, k') ∧ MRp k0 k' T n i' C V K' (N + 1) dp' op'
/-- what stays within a part: F13 alone was written since g -/
theorem rp_fr {g k : aH} {T : Nat → Nat} {n i : Nat} (f : FR g k [] [] [] F13) (rc : RC k T n i) : k.2.1 114 = g.2.1 114 ∧ k.2.1 125 = g.2.1 125 ∧ k.2.1 113 29 = g.2.1 113 29 ∧ k.2.1 113 30 = g.2.1 113 30 ∧ k.2.2.1 116 = g.2.2.1 116 :=
  ⟨f.I 114 (by decide) (by decide) (by decide), f.I 125 (by decide) (by decide) (by decide), f.2.2.2.2.2 29 (by decide), f.2.2.2.2.2 30 (by decide), f.J 116 (by decide)⟩
/-- the sign behind a step -/
theorem r_semi {k0 k : aH} {T : Nat → Nat} {n j : Nat} {C : Nat → Nat} {V : Nat → List Nat} {N : Nat} {K' : Nat → Nat → Nat} {dp' : Nat} {op' : Nat → Nat} (mr : MRp k0 k T n j C V K' (N + 1) dp' op') : ORp k0 T n C V N (f_X12_step_j311 k 113) (smS T n j K' dp' op') := by
  obtain ⟨⟨f0, a0⟩, rc, nr, ⟨q3, q4⟩, ⟨d1, d2, d3⟩, rw, ro⟩ := mr
  have kl := rc.1
  obtain ⟨y1, y2⟩ := r_want (t := 3) (c := 59) rc (Or.inl ⟨rfl, rfl⟩)
  by_cases tt : tcI T n j = 3
  · obtain ⟨k', r, f, l⟩ := y1 tt
    have eo : smS T n j K' dp' op' = .inr (j + 1, K', dp', op') := if_pos tt
    rw [eo]
    obtain ⟨p1, p2, p3, p4, p5⟩ := rp_fr f l
    refine ⟨k', by simp (disch := first | assumption | omega | decide | ((repeat first | apply lyI | apply lyJ | apply lywI | apply lywJ | apply csI | apply csJ | apply cswI | apply cswJ); assumption)) only [f_X12_step_j311, SM, LI, ↓li_m1, nI_add, pk_mul, nn_sub, nn_m1, nn_div, nn_rem, nn_nz, nn_mod, nJ_l, lN_add, lN_mul, nn_tb1, nI_bt, nn_and, nn_or, nn_xor, nn_shr, nn_1shl, nn_31, il_p, il_n, it_p, it_n, ie_p, ie_n, ie_b, ie_b1, ie_m, ie_mm, it_m, it_m0, il_m0, bI_rZ, Option.bind_some, bd2_some, Nat.add_zero, Nat.zero_add, if_true, if_false, Bool.false_eq_true, eq_self, hI_R, hJ_R, ng_t, ng_e, r, rz1], ⟨f0.tr (f.mono (by decide) (by decide) (by decide) (by decide)), fun x hx => by rw [p1]; exact a0 x hx⟩, l, nr_fr f (by decide) nr, ?_, ?_, ?_, ?_⟩
    · rw [p1]
      exact ⟨q3, q4⟩
    · rw [p1, p3, p4]
      exact ⟨d1, d2, d3⟩
    · rw [p1]
      exact rw
    · rw [p2]
      exact ro
  · obtain ⟨k', r, f, l⟩ := y2 tt
    have eo : smS T n j K' dp' op' = .inl (fkN T n j 2, frI T n j) := if_neg tt
    rw [eo]
    exact ⟨k', by simp (disch := first | assumption | omega | decide | ((repeat first | apply lyI | apply lyJ | apply lywI | apply lywJ | apply csI | apply csJ | apply cswI | apply cswJ); assumption)) only [f_X12_step_j311, SM, LI, ↓li_m1, nI_add, pk_mul, nn_sub, nn_m1, nn_div, nn_rem, nn_nz, nn_mod, nJ_l, lN_add, lN_mul, nn_tb1, nI_bt, nn_and, nn_or, nn_xor, nn_shr, nn_1shl, nn_31, il_p, il_n, it_p, it_n, ie_p, ie_n, ie_b, ie_b1, ie_m, ie_mm, it_m, it_m0, il_m0, bI_rZ, Option.bind_some, bd2_some, Nat.add_zero, Nat.zero_add, if_true, if_false, Bool.false_eq_true, eq_self, hI_R, hJ_R, ng_t, ng_e, r, rz0], ⟨f0.tr (f.mono (by decide) (by decide) (by decide) (by decide)), fun x hx => by rw [f.I 114 (by decide) (by decide) (by decide)]; exact a0 x hx⟩, l⟩
/-- the row's last three places are emptied -/
theorem r_zero {k : aH} (kl : LAY k) {r : Nat} (hr : r + 4 ≤ 2000) (x y : Int32) : f_X12_step_l121 113 x y (nI r) (nI 1) k = some (wI k 114 (setF (k.2.1 114) (r + 1) 3 (fun _ => nI 0))) := by
  refine for0 (body := fun zz : Int32 × aH => f_X12_step_b121 113 x y (nI r) zz.1 zz.2) (fun j => (nI (1 + j), wI k 114 (setF (k.2.1 114) (r + 1) j (fun _ => nI 0)))) (3) (e := wI k 114 (setF (k.2.1 114) (r + 1) 3 (fun _ => nI 0))) (by rw [setF_0, wI_self]) (by omega) (fun j hj => ?_) ?_
  · rw [← setF_s, ← hI_set]
    simp (disch := first | assumption | omega | decide | ((repeat first | apply lyI | apply lyJ | apply lywI | apply lywJ | apply csI | apply csJ | apply cswI | apply cswJ); assumption)) only [f_X12_step_b121, SM, LI, ↓li_m1, nI_add, pk_mul, nn_sub, nn_m1, nn_div, nn_rem, nn_nz, nn_mod, nJ_l, lN_add, lN_mul, nn_tb1, nI_bt, nn_and, nn_or, nn_xor, nn_shr, nn_1shl, nn_31, il_p, il_n, it_p, it_n, ie_p, ie_n, ie_b, ie_b1, ie_m, ie_mm, it_m, it_m0, il_m0, bI_rZ, Option.bind_some, bd2_some, Nat.add_zero, Nat.zero_add, if_true, if_false, Bool.false_eq_true, eq_self, hI_R, hJ_R, ng_t, ng_e, Nat.add_assoc]
    try rfl
  · simp (disch := first | assumption | omega | decide | ((repeat first | apply lyI | apply lyJ | apply lywI | apply lywJ | apply csI | apply csJ | apply cswI | apply cswJ); assumption)) only [f_X12_step_b121, SM, LI, ↓li_m1, nI_add, pk_mul, nn_sub, nn_m1, nn_div, nn_rem, nn_nz, nn_mod, nJ_l, lN_add, lN_mul, nn_tb1, nI_bt, nn_and, nn_or, nn_xor, nn_shr, nn_1shl, nn_31, il_p, il_n, it_p, it_n, ie_p, ie_n, ie_b, ie_b1, ie_m, ie_mm, it_m, it_m0, il_m0, bI_rZ, Option.bind_some, bd2_some, Nat.add_zero, Nat.zero_add, if_true, if_false, Bool.false_eq_true, eq_self, hI_R, hJ_R, ng_t, ng_e]
/-- the head of a row: its word, three empty places, one row more, the next token -/
theorem r_row {k0 k : aH} {T : Nat → Nat} {n i : Nat} {C : Nat → Nat} {V : Nat → List Nat} {K : Nat → Nat → Nat} {N dp : Nat} {op : Nat → Nat} (mr : MRp k0 k T n i C V K N dp op) (hN : N < 60) (v s : Nat) (hs : s < 100) : ∃ k', (FR k0 k' [114, 125] [] [] G30 ∧ ∀ x, x < 1607 → k'.2.1 114 x = k0.2.1 114 x) ∧ RC k' T n (i + 1) ∧ NRe k' 0 C V ∧ (k'.2.1 114 3 = nI (C 2) ∧ k'.2.1 114 4 = nI (C 3)) ∧ (k'.2.1 113 29 = nI dp ∧ k'.2.1 113 30 = nI (sgK K N + s) ∧ k'.2.1 114 1607 = nI (N + 1)) ∧ (∀ r j, r < N → j < 4 → k'.2.1 114 (1748 + 4 * r + j) = nI (K r j)) ∧ (k'.2.1 114 (1748 + 4 * N) = nI v ∧ k'.2.1 114 (1748 + 4 * N + 1) = nI 0 ∧ k'.2.1 114 (1748 + 4 * N + 2) = nI 0 ∧ k'.2.1 114 (1748 + 4 * N + 3) = nI 0) ∧ (∀ e, e < dp → k'.2.1 125 e = nI (op e)) ∧ f_X12_step_j114 k 113 (nI v) (nI N) (nI (1748 + 4 * N)) 113 (nI (sgK K N)) (nI s) = if nI v = nI 17 then f_X12_step_j178 k' 113 (nI v) (nI N) (nI (1748 + 4 * N)) else if nI v = nI 18 then f_X12_step_j178 k' 113 (nI v) (nI N) (nI (1748 + 4 * N)) else f_X12_step_j198 k' 113 (nI v) (nI N) (nI (1748 + 4 * N)) := by
  obtain ⟨⟨f0, a0⟩, rc, nr, ⟨q3, q4⟩, ⟨d1, d2, d3⟩, rw, ro⟩ := mr
  have kl := rc.1
  have rz := r_zero (k := hI k 113 30 (nI (sgK K N + s))) kl (r := 1748 + 4 * N) (by omega) (nI v) (nI N)
  let g := hI (hI (wI (hI k 113 30 (nI (sgK K N + s))) 114 (setF ((hI k 113 30 (nI (sgK K N + s))).2.1 114) (1748 + 4 * N + 1) 3 (fun _ => nI 0))) 114 (1748 + 4 * N) (nI v)) 114 1607 (nI (N + 1))
  have fg : FR k g [114] [] [] [30] := (((fr_1 (by decide)).tr (FR.wI (by decide) (by decide) (by decide))).tr (FR.hI (by decide) (by decide) (by decide))).tr (FR.hI (by decide) (by decide) (by decide))
  have lg : LAY g := kl
  obtain ⟨k', r, f, l⟩ := r_go (rc_fr fg (by decide) (by decide) rc)
  obtain ⟨p1, p2, p3, p4, p5⟩ := rp_fr f l
  have g114 : ∀ x, g.2.1 114 x = if x = 1607 then nI (N + 1) else if x = 1748 + 4 * N then nI v else if 1748 + 4 * N + 1 ≤ x ∧ x < 1748 + 4 * N + 1 + 3 then nI 0 else k.2.1 114 x := fun x => by
    show (hI (hI (wI (hI k 113 30 _) 114 _) 114 _ _) 114 1607 _).2.1 114 x = _
    rw [rI_hI, rI_hI, wI_s]
    by_cases h1 : x = 1607
    · rw [if_pos ⟨rfl, h1⟩, if_pos h1]
    · rw [if_neg (fun e => h1 e.2), if_neg h1]
      by_cases h2 : x = 1748 + 4 * N
      · rw [if_pos ⟨rfl, h2⟩, if_pos h2]
      · rw [if_neg (fun e => h2 e.2), if_neg h2]
        rfl
  have gr : g.2.1 113 29 = k.2.1 113 29 ∧ g.2.1 113 30 = nI (sgK K N + s) := by
    refine ⟨?_, ?_⟩
    · show (hI k 113 30 (nI (sgK K N + s))).2.1 113 29 = _
      exact rI_nk (by decide)
    · show (hI k 113 30 (nI (sgK K N + s))).2.1 113 30 = _
      exact rI_eq
  refine ⟨k', ⟨(f0.tr (fg.mono (by decide) (by decide) (by decide) (by decide))).tr (f.mono (by decide) (by decide) (by decide) (by decide)), fun x hx => ?_⟩, l, nr_fr f (by decide) (nr_fr fg (by decide) nr), ⟨?_, ?_⟩, ⟨?_, ?_, ?_⟩, fun r' j hr hj => ?_, ⟨?_, ?_, ?_, ?_⟩, fun e he => ?_, ?_⟩
  · rw [p1, g114, if_neg (by omega), if_neg (by omega), if_neg (by omega)]
    exact a0 x hx
  · rw [p1, g114, if_neg (by omega), if_neg (by omega), if_neg (by omega)]
    exact q3
  · rw [p1, g114, if_neg (by omega), if_neg (by omega), if_neg (by omega)]
    exact q4
  · rw [p3, gr.1]
    exact d1
  · rw [p4, gr.2]
  · rw [p1, g114, if_pos rfl]
  · rw [p1, g114, if_neg (by omega), if_neg (by omega), if_neg (by omega)]
    exact rw r' j hr hj
  · rw [p1, g114, if_neg (by omega), if_pos rfl]
  · rw [p1, g114, if_neg (by omega), if_neg (by omega), if_pos (by omega)]
  · rw [p1, g114, if_neg (by omega), if_neg (by omega), if_pos (by omega)]
  · rw [p1, g114, if_neg (by omega), if_neg (by omega), if_pos (by omega)]
  · rw [p2]
    exact ro e he
  · have w7 : (hI (wI (hI k 113 30 (nI (sgK K N + s))) 114 (setF ((hI k 113 30 (nI (sgK K N + s))).2.1 114) (1748 + 4 * N + 1) 3 (fun _ => nI 0))) 114 (1748 + 4 * N) (nI v)).2.1 114 1607 = nI N := by
      rw [rI_nk (by omega), wI_s, setF_out (by omega)]
      exact d3
    have r' : f_X12_ahead (hI (hI (wI (hI k 113 30 (nI (sgK K N + s))) 114 (setF ((hI k 113 30 (nI (sgK K N + s))).2.1 114) (1748 + 4 * N + 1) 3 (fun _ => nI 0))) 114 (1748 + 4 * N) (nI v)) 114 1607 (nI (N + 1))) 113 = some k' := r
    simp (disch := first | assumption | omega | decide | ((repeat first | apply lyI | apply lyJ | apply lywI | apply lywJ | apply csI | apply csJ | apply cswI | apply cswJ); assumption)) only [f_X12_step_j114, SM, LI, ↓li_m1, nI_add, pk_mul, nn_sub, nn_m1, nn_div, nn_rem, nn_nz, nn_mod, nJ_l, lN_add, lN_mul, nn_tb1, nI_bt, nn_and, nn_or, nn_xor, nn_shr, nn_1shl, nn_31, il_p, il_n, it_p, it_n, ie_p, ie_n, ie_b, ie_b1, ie_m, ie_mm, it_m, it_m0, il_m0, bI_rZ, Option.bind_some, bd2_some, Nat.add_zero, Nat.zero_add, if_true, if_false, Bool.false_eq_true, eq_self, hI_R, hJ_R, ng_t, ng_e, rz, w7, r']
