/-! ===== cases: the class reads a fact ===== -/
theorem va_v {A : Nat → Nat} {f g : Nat} (h : A 1 < 24) : vA A f g 1 = A 1 + 1 ∧ vA A f g (8 + A 1) = f ∧ vA A f g (32 + A 1) = g := by
  unfold vA
  refine ⟨if_pos rfl, ?_, ?_⟩
  · rw [if_neg (by omega), if_pos rfl]
  · rw [if_neg (by omega), if_neg (by omega), if_pos rfl]
theorem va_n {A : Nat → Nat} {f g y : Nat} (h1 : y ≠ 1) (h8 : y ≠ 8 + A 1) (h32 : y ≠ 32 + A 1) : vA A f g y = A y := by
  unfold vA
  rw [if_neg h1, if_neg h8, if_neg h32]
/-- within the values: the class -/
def DCf (h0 h : aH) (c : Nat) (T : Nat → Nat) (n m i : Nat) (A A' : Nat → Nat) (V : Nat → List Nat) (Bv : Nat → Nat) (Q : Nat → Nat → Bool) : Prop := DCm h0 h c T n m i A' (upC (cA A') 0) V Bv Q ∧ h.2.1 (c + 5) (A 0) = nI (A 1)
theorem dcf_4 {h0 h h' : aH} {c : Nat} {T : Nat → Nat} {n m i i' : Nat} {A A' : Nat → Nat} {V : Nat → List Nat} {Bv : Nat → Nat} {Q : Nat → Nat → Bool} (d : DCf h0 h c T n m i A A' V Bv Q) (f : FR h h' [4] [4] [] []) (lc : LC h' T n m i') : DCf h0 h' c T n m i' A A' V Bv Q := by
  have c0 := d.1.2.2.1.1
  exact ⟨dcm_4 d.1 f lc, by rw [f.I (c + 5) (by simp <;> omega) (by omega) (by omega)]; exact d.2⟩
/-- a value was put in -/
theorem dcf_v {h0 h h1 h2 : aH} {c : Nat} {T : Nat → Nat} {n m i i' : Nat} {A A' : Nat → Nat} {V : Nat → List Nat} {Bv : Nat → Nat} {Q : Nat → Nat → Bool} (d : DCf h0 h c T n m i A A' V Bv Q) (a3 : A' 3 = 0) (a24 : A' 1 < 24) {V' : Nat → List Nat} {g : Nat} {f : Nat} (f1 : FR h h1 [c + 1, c + 3, c + 4] [c + 2] [] []) (nc : NCl h1 c (upC (upC (cA A') 0) 1) V') (f2 : FR (hI (hI (hI h1 (c + 7) (A' 1) (nI f)) (c + 8) (A' 1) (nI g)) c 13 (nI (A' 1 + 1))) h2 [4] [4] [] []) (lc : LC h2 T n m i') : DCf h0 h2 c T n m i' A (vA A' f g) V' Bv Q := by
  obtain ⟨⟨d1, d2, d3, d4, d5, d6, d7, d8⟩, d9⟩ := d
  have c0 := d3.1
  have fm : FR h1 (hI (hI (hI h1 (c + 7) (A' 1) (nI f)) (c + 8) (A' 1) (nI g)) c 13 (nI (A' 1 + 1))) [c, c + 7, c + 8] [] [] [] := ((FR.hI (by simp) (by omega) (by omega)).tr (FR.hI (by simp) (by omega) (by omega))).tr (FR.hI (by simp) (by omega) (by omega))
  have fz : FR h h2 [4, c, c + 1, c + 3, c + 4, c + 7, c + 8] [4, c + 2] [] [] := ((f1.mono (by intro x hx; simp at hx ⊢; omega) (by simp) (by simp) (by simp)).tr (fm.mono (by intro x hx; simp at hx ⊢; omega) (by simp) (by simp) (by simp))).tr (f2.mono (by simp) (by simp) (by simp) (by simp))
  have fz1 : FR h1 h2 [4, c, c + 7, c + 8] [4] [] [] := (fm.mono (by intro x hx; simp at hx ⊢; omega) (by simp) (by simp) (by simp)).tr (f2.mono (by simp) (by simp) (by simp) (by simp))
  have e : ∀ j, j < 16 → j ≠ 0 → j ≠ 1 → j ≠ 3 → j ≠ 4 → j ≠ 7 → j ≠ 8 → h2.2.1 (c + j) = h.2.1 (c + j) := fun j hj j0 j1 j3 j4 j7 j8 => fz.I _ (by simp <;> omega) (by omega) (by omega)
  have ec : ∀ k, h2.2.1 c k = if k = 13 then nI (A' 1 + 1) else h.2.1 c k := fun k => by
    rw [f2.I c (by simp <;> omega) (by omega) (by omega), rI_hI]
    by_cases hk : k = 13
    · rw [if_pos ⟨rfl, hk⟩, if_pos hk]
    · rw [if_neg (fun z => hk z.2), if_neg hk, rI_ne (by omega), rI_ne (by omega), f1.I c (by simp) (by omega) (by omega)]
  have e7 : ∀ v, h2.2.1 (c + 7) v = if v = A' 1 then nI f else h.2.1 (c + 7) v := fun v => by
    rw [f2.I (c + 7) (by simp <;> omega) (by omega) (by omega), rI_ne (by omega), rI_ne (by omega), rI_hI]
    by_cases hk : v = A' 1
    · rw [if_pos ⟨rfl, hk⟩, if_pos hk]
    · rw [if_neg (fun z => hk z.2), if_neg hk, f1.I (c + 7) (by simp) (by omega) (by omega)]
  have e8 : ∀ v, h2.2.1 (c + 8) v = if v = A' 1 then nI g else h.2.1 (c + 8) v := fun v => by
    rw [f2.I (c + 8) (by simp <;> omega) (by omega) (by omega), rI_ne (by omega), rI_hI]
    by_cases hk : v = A' 1
    · rw [if_pos ⟨rfl, hk⟩, if_pos hk]
    · rw [if_neg (fun z => hk z.2), if_neg hk, rI_ne (by omega), f1.I (c + 8) (by simp) (by omega) (by omega)]
  obtain ⟨v1, v8, v32⟩ := va_v (f := f) (g := g) a24
  have vn : ∀ y, y ≠ 1 → y < 8 ∨ 56 ≤ y → vA A' f g y = A' y := fun y h1 h2 => va_n h1 (by omega) (by omega)
  refine ⟨⟨d1.tr (fz.mono (by intro x hx; unfold LCc; simp at hx ⊢; omega) (by intro x hx; unfold LJc; simp at hx ⊢; omega) (by simp) (by simp)), lc, cs_fr fz d3, by rw [fz.2.1]; exact d4, ?_, ?_, ?_, Or.inl ⟨by rw [vn 3 (by decide) (by omega)]; exact a3, ?_⟩⟩, ?_⟩
  · rw [← up01 a24]
    exact nc_fr fz1 (cs_fr f1 d3) (by simp <;> omega) (by simp <;> omega) (by simp <;> omega) (by simp <;> omega) nc
  · obtain ⟨⟨g12, g13, g14, g16, g17, g18⟩, gf, gv, gq, gw⟩ := d6
    have my : pk4 (myN (vA A' f g)) = pk4 (myN A') := by
      have e : ∀ u, u < 4 → myN (vA A' f g) u = myN A' u := fun u hu => by
        unfold myN mayN
        rw [vn 4 (by decide) (by omega)]
        by_cases h4 : u < A' 4
        · rw [if_pos h4, if_pos h4]
          exact orN_congr (fun k hk => by rw [vn _ (by omega) (by omega)])
        · rw [if_neg h4, if_neg h4]
      unfold pk4
      rw [e 0 (by decide), e 1 (by decide), e 2 (by decide), e 3 (by decide)]
    unfold DCa
    rw [e 5 (by decide) (by decide) (by decide) (by decide) (by decide) (by decide) (by decide), e 11 (by decide) (by decide) (by decide) (by decide) (by decide) (by decide) (by decide), e 12 (by decide) (by decide) (by decide) (by decide) (by decide) (by decide) (by decide), e 13 (by decide) (by decide) (by decide) (by decide) (by decide) (by decide) (by decide), e 14 (by decide) (by decide) (by decide) (by decide) (by decide) (by decide) (by decide), ec 12, ec 13, ec 14, ec 16, ec 17, ec 18, if_neg (by decide), if_pos rfl, if_neg (by decide), if_neg (by decide), if_neg (by decide), if_neg (by decide), vn 0 (by decide) (by omega), v1, vn 2 (by decide) (by omega), vn 3 (by decide) (by omega), vn 4 (by decide) (by omega), my]
    refine ⟨⟨g12, rfl, g14, g16, g17, g18⟩, fun f' hf => ?_, fun v hv => ?_, fun q hq => absurd hq (by omega), fun v hv => ?_⟩
    · rw [vn (56 + f') (by omega) (by omega), vn (60 + f') (by omega) (by omega)]
      exact gf f' hf
    · rw [e7, e8]
      by_cases hk : v = A' 1
      · rw [if_pos hk, if_pos hk, hk, v8, v32]
        exact ⟨rfl, rfl⟩
      · rw [if_neg hk, if_neg hk, va_n (by omega) (by omega) (by omega), va_n (by omega) (by omega) (by omega)]
        exact gv v (by omega)
    · rw [vn _ (by omega) (by omega), vn _ (by omega) (by omega)]
      refine ⟨fun k hk => ?_, (gw v hv).2⟩
      rw [vn _ (by omega) (by omega)]
      exact (gw v hv).1 k hk
  · rw [fz.I 48 (by simp <;> omega) (by decide) (by decide)]
    exact d7
  · rw [fz.I 42 (by simp <;> omega) (by decide) (by decide)]
    rcases d8 with d8 | d8
    · exact d8.2
    · exact absurd d8.1 (by omega)
  · rw [e 5 (by decide) (by decide) (by decide) (by decide) (by decide) (by decide) (by decide)]
    exact d9
/-- what one value is read as -/
def vO (T : Nat → Nat) (n f x j : Nat) (A : Nat → Nat) (V : Nat → List Nat) : (Nat × Nat) ⊕ (Nat × (Nat → Nat) × (Nat → List Nat)) :=
  if nwB T n j (upC (cA A) 0) V = false then .inl (nmF T n j, frI T n j) else if x = 6 then .inl (6, frI T n j) else if tcI T n (j + 1) = 2 then (if 1 ≤ nuI T n (j + 1) ∧ nuI T n (j + 1) ≤ 9 then .inr (j + 2, vA A f (nuI T n (j + 1)), nV V A (wdI T n j)) else .inl (fkN T n (j + 1) 4, frI T n (j + 1))) else .inr (j + 1, vA A f 1, nV V A (wdI T n j))
theorem fL_s {T : Nat → Nat} {n f g x j : Nat} {A : Nat → Nat} {V : Nat → List Nat} (h : ¬ (x ≠ 0 ∧ tcI T n j = 3)) : fL T n f (g + 1) x j A V = (match vO T n f x j A V with | .inl e => .inl e | .inr (j', A', V') => fL T n f g (x + 1) j' A' V') := by
  unfold vO
  show (if x ≠ 0 ∧ tcI T n j = 3 then _ else _) = _
  rw [if_neg h]
  by_cases h1 : nwB T n j (upC (cA A) 0) V = false
  · rw [if_pos h1, if_pos h1]
  · rw [if_neg h1, if_neg h1]
    by_cases h2 : x = 6
    · rw [if_pos h2, if_pos h2]
    · rw [if_neg h2, if_neg h2]
      by_cases h3 : tcI T n (j + 1) = 2
      · rw [if_pos h3, if_pos h3]
        by_cases h4 : 1 ≤ nuI T n (j + 1) ∧ nuI T n (j + 1) ≤ 9
        · rw [if_pos h4, if_pos h4]
        · rw [if_neg h4, if_neg h4]
      · rw [if_neg h3, if_neg h3]
def OVc (h0 : aH) (c : Nat) (T : Nat → Nat) (n m : Nat) (A : Nat → Nat) (Bv : Nat → Nat) (Q : Nat → Nat → Bool) (x : Option (Int32 × aH)) (o : (Nat × Nat) ⊕ (Nat × (Nat → Nat) × (Nat → List Nat))) : Prop := match o with
  | .inl (f, q) => f ≠ 0 ∧ f < 100 ∧ ∃ h', x = some (nI 0, h') ∧ FR h0 h' (LCc c) (LJc c) [] [] ∧ FL h' f q
  | .inr (j, A', V') => ∃ h', x = some (nI 1, h') ∧ DCf h0 h' c T n m j A A' V' Bv Q
theorem x_val {h0 h : aH} {c : Nat} {T : Nat → Nat} {n m j : Nat} {A A' : Nat → Nat} {V : Nat → List Nat} {Bv : Nat → Nat} {Q : Nat → Nat → Bool} {x : Nat} (d : DCf h0 h c T n m j A A' V Bv Q) (a3 : A' 3 = 0) (a24 : x < 6 → A' 1 < 24) (a0 : A' 0 = A 0) (f4 : A 0 < 4) (x6 : x ≤ 6) (nv : NV (upC (cA A') 0) V) : OVc h0 c T n m A Bv Q (f_X2_readValue h 42 (nI x)) (vO T n (A 0) x j A' V) := by
  obtain ⟨d1, lc, hs, h6, nc, dca, dn, dw⟩ := id d.1
  have hl := lc.1
  have c0 := hs.1
  obtain ⟨y1, y2⟩ := x_isNew lc hs h6 nc nv
  unfold vO
  cases hb : nwB T n j (upC (cA A') 0) V with
  | false =>
    rw [if_pos rfl]
    obtain ⟨h', r, f, l⟩ := y2 hb
    obtain ⟨n1, n2⟩ := nf_b (T := T) (n := n) (i := j)
    exact ⟨n1, n2, h', by rw [u_X2_readValue_e]; simp (disch := first | assumption | omega | decide | ((repeat first | apply lyI | apply lyJ | apply lywI | apply lywJ | apply csI | apply csJ | apply cswI | apply cswJ); assumption)) only [SR, LI, ↓li_m1, nI_add, pk_mul, nn_sub, nn_m1, nn_div, nn_rem, nn_nz, nn_mod, nJ_l, lN_add, lN_mul, nn_tb1, nI_bt, nn_and, nn_or, nn_xor, nn_shr, nn_1shl, nn_31, il_p, il_n, it_p, it_n, ie_p, ie_n, ie_b, ie_b1, ie_m, ie_mm, it_m, it_m0, il_m0, bI_rZ, Option.bind_some, bd2_some, Nat.add_zero, Nat.zero_add, if_true, if_false, Bool.false_eq_true, eq_self, hI_R, hJ_R, ng_t, ng_e, r]; try (unfold u_X2_readValue_c3; simp (disch := first | assumption | omega | decide | ((repeat first | apply lyI | apply lyJ | apply lywI | apply lywJ | apply csI | apply csJ | apply cswI | apply cswJ); assumption)) only [SR, LI, ↓li_m1, nI_add, pk_mul, nn_sub, nn_m1, nn_div, nn_rem, nn_nz, nn_mod, nJ_l, lN_add, lN_mul, nn_tb1, nI_bt, nn_and, nn_or, nn_xor, nn_shr, nn_1shl, nn_31, il_p, il_n, it_p, it_n, ie_p, ie_n, ie_b, ie_b1, ie_m, ie_mm, it_m, it_m0, il_m0, bI_rZ, Option.bind_some, bd2_some, Nat.add_zero, Nat.zero_add, if_true, if_false, Bool.false_eq_true, eq_self, hI_R, hJ_R, ng_t, ng_e, r]); try (unfold u_X2_readValue_c2; simp (disch := first | assumption | omega | decide | ((repeat first | apply lyI | apply lyJ | apply lywI | apply lywJ | apply csI | apply csJ | apply cswI | apply cswJ); assumption)) only [SR, LI, ↓li_m1, nI_add, pk_mul, nn_sub, nn_m1, nn_div, nn_rem, nn_nz, nn_mod, nJ_l, lN_add, lN_mul, nn_tb1, nI_bt, nn_and, nn_or, nn_xor, nn_shr, nn_1shl, nn_31, il_p, il_n, it_p, it_n, ie_p, ie_n, ie_b, ie_b1, ie_m, ie_mm, it_m, it_m0, il_m0, bI_rZ, Option.bind_some, bd2_some, Nat.add_zero, Nat.zero_add, if_true, if_false, Bool.false_eq_true, eq_self, hI_R, hJ_R, ng_t, ng_e, r]); try (unfold u_X2_readValue_c1; simp (disch := first | assumption | omega | decide | ((repeat first | apply lyI | apply lyJ | apply lywI | apply lywJ | apply csI | apply csJ | apply cswI | apply cswJ); assumption)) only [SR, LI, ↓li_m1, nI_add, pk_mul, nn_sub, nn_m1, nn_div, nn_rem, nn_nz, nn_mod, nJ_l, lN_add, lN_mul, nn_tb1, nI_bt, nn_and, nn_or, nn_xor, nn_shr, nn_1shl, nn_31, il_p, il_n, it_p, it_n, ie_p, ie_n, ie_b, ie_b1, ie_m, ie_mm, it_m, it_m0, il_m0, bI_rZ, Option.bind_some, bd2_some, Nat.add_zero, Nat.zero_add, if_true, if_false, Bool.false_eq_true, eq_self, hI_R, hJ_R, ng_t, ng_e, r]), d1.tr (f.mono lcc_4 ljc_4 (by simp) (by simp)), l⟩
  | true =>
    rw [if_neg (by decide)]
    have r1 := y1 hb
    obtain ⟨t6, tk⟩ := nw_6 hb
    by_cases e6 : x = 6
    · rw [if_pos e6]
      subst e6
      obtain ⟨h', r, f, l⟩ := x_ref lc 6
      rw [fk_n (by omega)] at l
      exact ⟨by decide, by decide, h', by rw [u_X2_readValue_e]; simp (disch := first | assumption | omega | decide | ((repeat first | apply lyI | apply lyJ | apply lywI | apply lywJ | apply csI | apply csJ | apply cswI | apply cswJ); assumption)) only [SR, SX, LI, ↓li_m1, nI_add, pk_mul, nn_sub, nn_m1, nn_div, nn_rem, nn_nz, nn_mod, nJ_l, lN_add, lN_mul, nn_tb1, nI_bt, nn_and, nn_or, nn_xor, nn_shr, nn_1shl, nn_31, il_p, il_n, it_p, it_n, ie_p, ie_n, ie_b, ie_b1, ie_m, ie_mm, it_m, it_m0, il_m0, bI_rZ, Option.bind_some, bd2_some, Nat.add_zero, Nat.zero_add, if_true, if_false, Bool.false_eq_true, eq_self, hI_R, hJ_R, ng_t, ng_e, r1, r, rz0]; try (unfold u_X2_readValue_c3; simp (disch := first | assumption | omega | decide | ((repeat first | apply lyI | apply lyJ | apply lywI | apply lywJ | apply csI | apply csJ | apply cswI | apply cswJ); assumption)) only [SR, SX, LI, ↓li_m1, nI_add, pk_mul, nn_sub, nn_m1, nn_div, nn_rem, nn_nz, nn_mod, nJ_l, lN_add, lN_mul, nn_tb1, nI_bt, nn_and, nn_or, nn_xor, nn_shr, nn_1shl, nn_31, il_p, il_n, it_p, it_n, ie_p, ie_n, ie_b, ie_b1, ie_m, ie_mm, it_m, it_m0, il_m0, bI_rZ, Option.bind_some, bd2_some, Nat.add_zero, Nat.zero_add, if_true, if_false, Bool.false_eq_true, eq_self, hI_R, hJ_R, ng_t, ng_e, r1, r, rz0]); try (unfold u_X2_readValue_c2; simp (disch := first | assumption | omega | decide | ((repeat first | apply lyI | apply lyJ | apply lywI | apply lywJ | apply csI | apply csJ | apply cswI | apply cswJ); assumption)) only [SR, SX, LI, ↓li_m1, nI_add, pk_mul, nn_sub, nn_m1, nn_div, nn_rem, nn_nz, nn_mod, nJ_l, lN_add, lN_mul, nn_tb1, nI_bt, nn_and, nn_or, nn_xor, nn_shr, nn_1shl, nn_31, il_p, il_n, it_p, it_n, ie_p, ie_n, ie_b, ie_b1, ie_m, ie_mm, it_m, it_m0, il_m0, bI_rZ, Option.bind_some, bd2_some, Nat.add_zero, Nat.zero_add, if_true, if_false, Bool.false_eq_true, eq_self, hI_R, hJ_R, ng_t, ng_e, r1, r, rz0]); try (unfold u_X2_readValue_c1; simp (disch := first | assumption | omega | decide | ((repeat first | apply lyI | apply lyJ | apply lywI | apply lywJ | apply csI | apply csJ | apply cswI | apply cswJ); assumption)) only [SR, SX, LI, ↓li_m1, nI_add, pk_mul, nn_sub, nn_m1, nn_div, nn_rem, nn_nz, nn_mod, nJ_l, lN_add, lN_mul, nn_tb1, nI_bt, nn_and, nn_or, nn_xor, nn_shr, nn_1shl, nn_31, il_p, il_n, it_p, it_n, ie_p, ie_n, ie_b, ie_b1, ie_m, ie_mm, it_m, it_m0, il_m0, bI_rZ, Option.bind_some, bd2_some, Nat.add_zero, Nat.zero_add, if_true, if_false, Bool.false_eq_true, eq_self, hI_R, hJ_R, ng_t, ng_e, r1, r, rz0]), d1.tr (f.mono lcc_4 ljc_4 (by simp) (by simp)), l⟩
    · rw [if_neg e6]
      have b24 := a24 (by omega)
      have e11 := lc.2.2.1.2.2.1 t6
      have e13 : h.2.1 c 13 = nI (A' 1) := dca.1.2.1
      have e12 : h.2.1 c 12 = nI (A 0) := by rw [← a0]; exact dca.1.1
      obtain ⟨h7, r2, f2, nc2⟩ := x_add hs nc nv (wd_vd t6) (s := 1) (by decide) (show A' 1 < 24 from b24) tk
      have r2' : f_X7_add h (c + 1) (lN (c5 (wdI T n j))) (nI 1) (nI (A' 1)) = some h7 := r2
      have l7 := f2.lay hl
      have s7 := cs_fr f2 hs
      have lc7 := lc_fr f2 (by intro x hx; simp at hx; omega) (by intro x hx; simp at hx; omega) lc
      have q6 : h7.2.2.2 42 6 = some c := by rw [f2.2.1]; exact h6
      have q12 : h7.2.1 c 12 = nI (A 0) := by rw [f2.I c (by simp) (by omega) (by omega)]; exact e12
      have q13 : h7.2.1 c 13 = nI (A' 1) := by rw [f2.I c (by simp) (by omega) (by omega)]; exact e13
      let h8 := hI (hI (hI h7 (c + 7) (A' 1) (nI (A 0))) (c + 8) (A' 1) (nI 1)) c 13 (nI (A' 1 + 1))
      have fm : FR h7 h8 [c, c + 7, c + 8] [] [] [] := ((FR.hI (by simp) (by omega) (by omega)).tr (FR.hI (by simp) (by omega) (by omega))).tr (FR.hI (by simp) (by omega) (by omega))
      have l8 : LAY h8 := l7
      have s8 : CS h8 c := s7
      have q6' : h8.2.2.2 42 6 = some c := q6
      have q13' : (hI (hI h7 (c + 7) (A' 1) (nI (A 0))) (c + 8) (A' 1) (nI 1)).2.1 c 13 = nI (A' 1) := by
        rw [rI_ne (by omega), rI_ne (by omega)]
        exact q13
      have lc8 := lc_fr fm (by intro x hx; simp at hx; omega) (by simp) lc7
      obtain ⟨h9, r9, f9, lc9⟩ := x_adv lc8 (lc_lt lc8 (by omega))
      have l9 := lc9.1
      have r9' : f_X4_advance (hI (hI (hI h7 (c + 7) (A' 1) (nI (A 0))) (c + 8) (A' 1) (nI 1)) c 13 (nI (A' 1 + 1))) 4 = some h9 := r9
      have q69 : h9.2.2.2 42 6 = some c := by rw [f9.2.1]; exact q6
      have s9 := cs_fr f9 s8
      have e10 : h9.2.1 4 10 = nI (tcI T n (j + 1)) := lc9.2.2.1.2.1
      have e12z : h9.2.1 4 12 = nI 0 := lc9.2.2.1.2.2.2.1
      have tl := tc_le (T := T) (n := n) (i := j + 1)
      by_cases t2 : tcI T n (j + 1) = 2
      · rw [if_pos t2]
        rw [t2] at e10
        rcases x_number lc9 (lo := 1) (hi' := 9) (by decide) (by decide) with ⟨t8, n0, n9, h10, r10, f10, lc10⟩ | ⟨nt, h10, r10, f10, l10⟩
        · rw [if_pos ⟨n0, n9⟩]
          have l10 := lc10.1
          have s10 := cs_fr f10 s9
          have e12y : h10.2.1 4 12 = nI 0 := lc10.2.2.1.2.2.2.1
          let h11 := hI h10 (c + 8) (A' 1) (nI (nuI T n (j + 1)))
          have l11 : LAY h11 := l10
          have e12x : h11.2.1 4 12 = nI 0 := by
            show (hI h10 (c + 8) (A' 1) (nI (nuI T n (j + 1)))).2.1 4 12 = _
            rw [rI_ne (by omega)]
            exact e12y
          have fh : FR h10 h11 [c + 8] [] [] [] := FR.hI (by simp) (by omega) (by omega)
          have lc11 := lc_fr fh (by intro x hx; simp at hx; omega) (by simp) lc10
          have e12w : (hI h10 (c + 8) (A' 1) (nI (nuI T n (j + 1)))).2.1 4 12 = nI 0 := e12x
          refine ⟨h11, by
            show _ = some (nI 1, hI h10 (c + 8) (A' 1) (nI (nuI T n (j + 1))))
            rw [u_X2_readValue_e]; simp (disch := first | assumption | omega | decide | ((repeat first | apply lyI | apply lyJ | apply lywI | apply lywJ | apply csI | apply csJ | apply cswI | apply cswJ); assumption)) only [f_X2_readValue_j128, SR, SX, SC, LI, ↓li_m1, nI_add, pk_mul, nn_sub, nn_m1, nn_div, nn_rem, nn_nz, nn_mod, nJ_l, lN_add, lN_mul, nn_tb1, nI_bt, nn_and, nn_or, nn_xor, nn_shr, nn_1shl, nn_31, il_p, il_n, it_p, it_n, ie_p, ie_n, ie_b, ie_b1, ie_m, ie_mm, it_m, it_m0, il_m0, bI_rZ, Option.bind_some, bd2_some, Nat.add_zero, Nat.zero_add, if_true, if_false, Bool.false_eq_true, eq_self, hI_R, hJ_R, ng_t, ng_e, r1, h6, e13, e11, r2', q6, q12, q13', r9', e10, q69, r10, e12w]; try (unfold u_X2_readValue_c3; simp (disch := first | assumption | omega | decide | ((repeat first | apply lyI | apply lyJ | apply lywI | apply lywJ | apply csI | apply csJ | apply cswI | apply cswJ); assumption)) only [f_X2_readValue_j128, SR, SX, SC, LI, ↓li_m1, nI_add, pk_mul, nn_sub, nn_m1, nn_div, nn_rem, nn_nz, nn_mod, nJ_l, lN_add, lN_mul, nn_tb1, nI_bt, nn_and, nn_or, nn_xor, nn_shr, nn_1shl, nn_31, il_p, il_n, it_p, it_n, ie_p, ie_n, ie_b, ie_b1, ie_m, ie_mm, it_m, it_m0, il_m0, bI_rZ, Option.bind_some, bd2_some, Nat.add_zero, Nat.zero_add, if_true, if_false, Bool.false_eq_true, eq_self, hI_R, hJ_R, ng_t, ng_e, r1, h6, e13, e11, r2', q6, q12, q13', r9', e10, q69, r10, e12w]); try (unfold u_X2_readValue_c2; simp (disch := first | assumption | omega | decide | ((repeat first | apply lyI | apply lyJ | apply lywI | apply lywJ | apply csI | apply csJ | apply cswI | apply cswJ); assumption)) only [f_X2_readValue_j128, SR, SX, SC, LI, ↓li_m1, nI_add, pk_mul, nn_sub, nn_m1, nn_div, nn_rem, nn_nz, nn_mod, nJ_l, lN_add, lN_mul, nn_tb1, nI_bt, nn_and, nn_or, nn_xor, nn_shr, nn_1shl, nn_31, il_p, il_n, it_p, it_n, ie_p, ie_n, ie_b, ie_b1, ie_m, ie_mm, it_m, it_m0, il_m0, bI_rZ, Option.bind_some, bd2_some, Nat.add_zero, Nat.zero_add, if_true, if_false, Bool.false_eq_true, eq_self, hI_R, hJ_R, ng_t, ng_e, r1, h6, e13, e11, r2', q6, q12, q13', r9', e10, q69, r10, e12w]); try (unfold u_X2_readValue_c1; simp (disch := first | assumption | omega | decide | ((repeat first | apply lyI | apply lyJ | apply lywI | apply lywJ | apply csI | apply csJ | apply cswI | apply cswJ); assumption)) only [f_X2_readValue_j128, SR, SX, SC, LI, ↓li_m1, nI_add, pk_mul, nn_sub, nn_m1, nn_div, nn_rem, nn_nz, nn_mod, nJ_l, lN_add, lN_mul, nn_tb1, nI_bt, nn_and, nn_or, nn_xor, nn_shr, nn_1shl, nn_31, il_p, il_n, it_p, it_n, ie_p, ie_n, ie_b, ie_b1, ie_m, ie_mm, it_m, it_m0, il_m0, bI_rZ, Option.bind_some, bd2_some, Nat.add_zero, Nat.zero_add, if_true, if_false, Bool.false_eq_true, eq_self, hI_R, hJ_R, ng_t, ng_e, r1, h6, e13, e11, r2', q6, q12, q13', r9', e10, q69, r10, e12w]), ?_⟩
          have key : FR (hI (hI (hI h7 (c + 7) (A' 1) (nI (A 0))) (c + 8) (A' 1) (nI (nuI T n (j + 1)))) c 13 (nI (A' 1 + 1))) h11 [4] [4] [] [] := by
            have fa := f9.tr f10
            have pt : ∀ y v, h10.2.1 y v = h8.2.1 y v → h11.2.1 y v = (hI (hI (hI h7 (c + 7) (A' 1) (nI (A 0))) (c + 8) (A' 1) (nI (nuI T n (j + 1)))) c 13 (nI (A' 1 + 1))).2.1 y v := fun y v q => by
              have q' : h10.2.1 y v = (hI (hI (hI h7 (c + 7) (A' 1) (nI (A 0))) (c + 8) (A' 1) (nI 1)) c 13 (nI (A' 1 + 1))).2.1 y v := q
              show (hI h10 (c + 8) (A' 1) (nI (nuI T n (j + 1)))).2.1 y v = _
              simp only [rI_hI, q']
              (repeat' split) <;> first | rfl | omega
            exact ⟨fa.1, fa.2.1, fun y hy y0 y1 => funext fun v => pt y v (by rw [fa.I y hy y0 y1]), fun y hy => fa.J y hy, fun v hv => pt 0 v (fa.2.2.2.2.1 v hv), fun v hv => pt 113 v (fa.2.2.2.2.2 v hv)⟩
          exact dcf_v d a3 b24 (f2.mono (by simp) (by simp) (by simp) (by simp)) nc2 key lc11
        · have ng : ¬ (1 ≤ nuI T n (j + 1) ∧ nuI T n (j + 1) ≤ 9) := fun z => nt ⟨t2, z⟩
          rw [if_neg ng]
          rw [if_pos t2] at l10
          have l10' := l10.1
          have s10 := cs_fr f10 s9
          obtain ⟨k1, k2⟩ := fk_b (T := T) (n := n) (i := j + 1) (k := 4) (by decide) (by decide)
          have fh : FR h10 (hI h10 (c + 8) (A' 1) m1) [c + 8] [] [] [] := FR.hI (by simp) (by omega) (by omega)
          have fl := fl_fr fh (by simp <;> omega) l10
          have ez : ¬ nI (fkN T n (j + 1) 4) = nI 0 := d_ne (by omega) (by decide) k1
          have e12x := fl.2.1
          refine ⟨k1, k2, hI h10 (c + 8) (A' 1) m1, by rw [u_X2_readValue_e]; simp (disch := first | assumption | omega | decide | ((repeat first | apply lyI | apply lyJ | apply lywI | apply lywJ | apply csI | apply csJ | apply cswI | apply cswJ); assumption)) only [f_X2_readValue_j128, SR, SX, SC, LI, ↓li_m1, nI_add, pk_mul, nn_sub, nn_m1, nn_div, nn_rem, nn_nz, nn_mod, nJ_l, lN_add, lN_mul, nn_tb1, nI_bt, nn_and, nn_or, nn_xor, nn_shr, nn_1shl, nn_31, il_p, il_n, it_p, it_n, ie_p, ie_n, ie_b, ie_b1, ie_m, ie_mm, it_m, it_m0, il_m0, bI_rZ, Option.bind_some, bd2_some, Nat.add_zero, Nat.zero_add, if_true, if_false, Bool.false_eq_true, eq_self, hI_R, hJ_R, ng_t, ng_e, r1, h6, e13, e11, r2', q6, q12, q13', r9', e10, q69, r10, e12x, if_neg ez]; try (unfold u_X2_readValue_c3; simp (disch := first | assumption | omega | decide | ((repeat first | apply lyI | apply lyJ | apply lywI | apply lywJ | apply csI | apply csJ | apply cswI | apply cswJ); assumption)) only [f_X2_readValue_j128, SR, SX, SC, LI, ↓li_m1, nI_add, pk_mul, nn_sub, nn_m1, nn_div, nn_rem, nn_nz, nn_mod, nJ_l, lN_add, lN_mul, nn_tb1, nI_bt, nn_and, nn_or, nn_xor, nn_shr, nn_1shl, nn_31, il_p, il_n, it_p, it_n, ie_p, ie_n, ie_b, ie_b1, ie_m, ie_mm, it_m, it_m0, il_m0, bI_rZ, Option.bind_some, bd2_some, Nat.add_zero, Nat.zero_add, if_true, if_false, Bool.false_eq_true, eq_self, hI_R, hJ_R, ng_t, ng_e, r1, h6, e13, e11, r2', q6, q12, q13', r9', e10, q69, r10, e12x, if_neg ez]); try (unfold u_X2_readValue_c2; simp (disch := first | assumption | omega | decide | ((repeat first | apply lyI | apply lyJ | apply lywI | apply lywJ | apply csI | apply csJ | apply cswI | apply cswJ); assumption)) only [f_X2_readValue_j128, SR, SX, SC, LI, ↓li_m1, nI_add, pk_mul, nn_sub, nn_m1, nn_div, nn_rem, nn_nz, nn_mod, nJ_l, lN_add, lN_mul, nn_tb1, nI_bt, nn_and, nn_or, nn_xor, nn_shr, nn_1shl, nn_31, il_p, il_n, it_p, it_n, ie_p, ie_n, ie_b, ie_b1, ie_m, ie_mm, it_m, it_m0, il_m0, bI_rZ, Option.bind_some, bd2_some, Nat.add_zero, Nat.zero_add, if_true, if_false, Bool.false_eq_true, eq_self, hI_R, hJ_R, ng_t, ng_e, r1, h6, e13, e11, r2', q6, q12, q13', r9', e10, q69, r10, e12x, if_neg ez]); try (unfold u_X2_readValue_c1; simp (disch := first | assumption | omega | decide | ((repeat first | apply lyI | apply lyJ | apply lywI | apply lywJ | apply csI | apply csJ | apply cswI | apply cswJ); assumption)) only [f_X2_readValue_j128, SR, SX, SC, LI, ↓li_m1, nI_add, pk_mul, nn_sub, nn_m1, nn_div, nn_rem, nn_nz, nn_mod, nJ_l, lN_add, lN_mul, nn_tb1, nI_bt, nn_and, nn_or, nn_xor, nn_shr, nn_1shl, nn_31, il_p, il_n, it_p, it_n, ie_p, ie_n, ie_b, ie_b1, ie_m, ie_mm, it_m, it_m0, il_m0, bI_rZ, Option.bind_some, bd2_some, Nat.add_zero, Nat.zero_add, if_true, if_false, Bool.false_eq_true, eq_self, hI_R, hJ_R, ng_t, ng_e, r1, h6, e13, e11, r2', q6, q12, q13', r9', e10, q69, r10, e12x, if_neg ez]), ?_, fl⟩
          exact d1.tr ((((f2.mono (by intro x hx; unfold LCc; simp at hx ⊢; omega) (by intro x hx; unfold LJc; simp at hx ⊢; omega) (by simp) (by simp)).tr (fm.mono (by intro x hx; unfold LCc; simp at hx ⊢; omega) (by simp) (by simp) (by simp))).tr ((f9.tr f10).mono lcc_4 ljc_4 (by simp) (by simp))).tr (fh.mono (by intro x hx; unfold LCc; simp at hx ⊢; omega) (by simp) (by simp) (by simp)))
      · rw [if_neg t2]
        have n2 : ¬ nI (tcI T n (j + 1)) = nI 2 := d_ne (by omega) (by decide) t2
        refine ⟨h9, by rw [u_X2_readValue_e]; simp (disch := first | assumption | omega | decide | ((repeat first | apply lyI | apply lyJ | apply lywI | apply lywJ | apply csI | apply csJ | apply cswI | apply cswJ); assumption)) only [f_X2_readValue_j128, SR, SX, SC, LI, ↓li_m1, nI_add, pk_mul, nn_sub, nn_m1, nn_div, nn_rem, nn_nz, nn_mod, nJ_l, lN_add, lN_mul, nn_tb1, nI_bt, nn_and, nn_or, nn_xor, nn_shr, nn_1shl, nn_31, il_p, il_n, it_p, it_n, ie_p, ie_n, ie_b, ie_b1, ie_m, ie_mm, it_m, it_m0, il_m0, bI_rZ, Option.bind_some, bd2_some, Nat.add_zero, Nat.zero_add, if_true, if_false, Bool.false_eq_true, eq_self, hI_R, hJ_R, ng_t, ng_e, r1, h6, e13, e11, r2', q6, q12, q13', r9', e10, if_neg n2, e12z]; try (unfold u_X2_readValue_c3; simp (disch := first | assumption | omega | decide | ((repeat first | apply lyI | apply lyJ | apply lywI | apply lywJ | apply csI | apply csJ | apply cswI | apply cswJ); assumption)) only [f_X2_readValue_j128, SR, SX, SC, LI, ↓li_m1, nI_add, pk_mul, nn_sub, nn_m1, nn_div, nn_rem, nn_nz, nn_mod, nJ_l, lN_add, lN_mul, nn_tb1, nI_bt, nn_and, nn_or, nn_xor, nn_shr, nn_1shl, nn_31, il_p, il_n, it_p, it_n, ie_p, ie_n, ie_b, ie_b1, ie_m, ie_mm, it_m, it_m0, il_m0, bI_rZ, Option.bind_some, bd2_some, Nat.add_zero, Nat.zero_add, if_true, if_false, Bool.false_eq_true, eq_self, hI_R, hJ_R, ng_t, ng_e, r1, h6, e13, e11, r2', q6, q12, q13', r9', e10, if_neg n2, e12z]); try (unfold u_X2_readValue_c2; simp (disch := first | assumption | omega | decide | ((repeat first | apply lyI | apply lyJ | apply lywI | apply lywJ | apply csI | apply csJ | apply cswI | apply cswJ); assumption)) only [f_X2_readValue_j128, SR, SX, SC, LI, ↓li_m1, nI_add, pk_mul, nn_sub, nn_m1, nn_div, nn_rem, nn_nz, nn_mod, nJ_l, lN_add, lN_mul, nn_tb1, nI_bt, nn_and, nn_or, nn_xor, nn_shr, nn_1shl, nn_31, il_p, il_n, it_p, it_n, ie_p, ie_n, ie_b, ie_b1, ie_m, ie_mm, it_m, it_m0, il_m0, bI_rZ, Option.bind_some, bd2_some, Nat.add_zero, Nat.zero_add, if_true, if_false, Bool.false_eq_true, eq_self, hI_R, hJ_R, ng_t, ng_e, r1, h6, e13, e11, r2', q6, q12, q13', r9', e10, if_neg n2, e12z]); try (unfold u_X2_readValue_c1; simp (disch := first | assumption | omega | decide | ((repeat first | apply lyI | apply lyJ | apply lywI | apply lywJ | apply csI | apply csJ | apply cswI | apply cswJ); assumption)) only [f_X2_readValue_j128, SR, SX, SC, LI, ↓li_m1, nI_add, pk_mul, nn_sub, nn_m1, nn_div, nn_rem, nn_nz, nn_mod, nJ_l, lN_add, lN_mul, nn_tb1, nI_bt, nn_and, nn_or, nn_xor, nn_shr, nn_1shl, nn_31, il_p, il_n, it_p, it_n, ie_p, ie_n, ie_b, ie_b1, ie_m, ie_mm, it_m, it_m0, il_m0, bI_rZ, Option.bind_some, bd2_some, Nat.add_zero, Nat.zero_add, if_true, if_false, Bool.false_eq_true, eq_self, hI_R, hJ_R, ng_t, ng_e, r1, h6, e13, e11, r2', q6, q12, q13', r9', e10, if_neg n2, e12z]), ?_⟩
        exact dcf_v d a3 b24 (f2.mono (by simp) (by simp) (by simp) (by simp)) nc2 f9 lc9
