/-! ===== cases: part by part ===== -/
theorem x_oth2 {h0 h : aH} {c : Nat} {T : Nat → Nat} {n m i : Nat} {A : Nat → Nat} {V : Nat → List Nat} {Bv : Nat → Nat} {Q : Nat → Nat → Bool} (d : DC h0 h c T n m i A V Bv Q) : OCc h0 c T n m (f_X4_refuseHere h 4 (nI 2)) (.inl (fkN T n i 2, frI T n i)) := by
  obtain ⟨h', r, f, l⟩ := x_ref d.2.1 2
  obtain ⟨k1, k2⟩ := fk_b (T := T) (n := n) (i := i) (k := 2) (by decide) (by decide)
  exact dc_fl d k1 k2 f l r
theorem iw_o : ∀ t, t < 35 → (t = 8 ∨ t = 10 ∨ t = 11 ∨ t = 14) ∨ (¬ (if 8 ≤ t then nI (rkN (t - 8)) else m1) = nI 0 ∧ ¬ (if 8 ≤ t then nI (rkN (t - 8)) else m1) = nI 1 ∧ ¬ (if 8 ≤ t then nI (rkN (t - 8)) else m1) = nI 2 ∧ ¬ (if 8 ≤ t then nI (rkN (t - 8)) else m1) = nI 3) := by decide +kernel
theorem r_oth2 {k0 k : aH} {T : Nat → Nat} {n i : Nat} {A : Nat → Nat} {V : Nat → List Nat} {Bv : Nat → Nat} {Q : Nat → Nat → Bool} (d : DR k0 k T n i A V Bv Q) (h8 : tcI T n i ≠ 8) (h10 : tcI T n i ≠ 10) (h11 : tcI T n i ≠ 11) (h14 : tcI T n i ≠ 14) : ORc k0 T n (f_X12_casePart k 113) (.inl (fkN T n i 2, frI T n i)) := by
  have kl := d.2.1.1
  have iw := r_cp0 d.2.1
  obtain ⟨n0, n1, n2, n3⟩ := (iw_o _ (tc_le (T := T) (n := n) (i := i))).resolve_left (by omega)
  have n0' : ¬ iwI T n i = nI 0 := n0
  have n1' : ¬ iwI T n i = nI 1 := n1
  have n2' : ¬ iwI T n i = nI 2 := n2
  have n3' : ¬ iwI T n i = nI 3 := n3
  obtain ⟨k', r, f, l⟩ := r_fail d.2.1 2
  exact dr_fl d f l (by simp (disch := first | assumption | omega | decide | ((repeat first | apply lyI | apply lyJ | apply lywI | apply lywJ | apply csI | apply csJ | apply cswI | apply cswJ); assumption)) only [f_X12_casePart, SM, LI, ↓li_m1, nI_add, pk_mul, nn_sub, nn_m1, nn_div, nn_rem, nn_nz, nn_mod, nJ_l, lN_add, lN_mul, nn_tb1, nI_bt, nn_and, nn_or, nn_xor, nn_shr, nn_1shl, nn_31, il_p, il_n, it_p, it_n, ie_p, ie_n, ie_b, ie_b1, ie_m, ie_mm, it_m, it_m0, il_m0, bI_rZ, Option.bind_some, bd2_some, Nat.add_zero, Nat.zero_add, if_true, if_false, Bool.false_eq_true, eq_self, hI_R, hJ_R, ng_t, ng_e, iw, if_neg n0', if_neg n1', if_neg n2', if_neg n3', r, rz0])
/-- one part, on both sides -/
theorem o_part {h0 h : aH} {c : Nat} {T : Nat → Nat} {n m i : Nat} {A : Nat → Nat} {V : Nat → List Nat} {Bv : Nat → Nat} {Q : Nat → Nat → Bool} (d : DC h0 h c T n m i A V Bv Q) (dv : DV A V Bv Q) (t0 : tcI T n i ≠ 0) {x : Nat} (x9 : x < 901) : ∃ o, (∀ f q, o = .inl (f, q) → f ≠ 0 ∧ f < 100 ∧ ∃ h', f_X2_readCase_b29 42 (nI 1) (nI x) h = some (.inl (nI 0, nI (x + 1), h')) ∧ FR h0 h' (LCc c) (LJc c) [] [] ∧ FL h' f q) ∧ (∀ i' A' V' B' Q', o = .inr (i', A', V', B', Q') → i < i' ∧ DV A' V' B' Q' ∧ ∃ h', f_X2_readCase_b29 42 (nI 1) (nI x) h = some (.inl (nI 1, nI (x + 1), h')) ∧ DC h0 h' c T n m i' A' V' B' Q') ∧ ∀ k0 k, DR k0 k T n i A V Bv Q → ORc k0 T n (f_X12_casePart k 113) o := by
  have lc := d.2.1
  have hl := lc.1
  have e10 : h.2.1 4 10 = nI (tcI T n i) := lc.2.2.1.2.1
  have tl := tc_le (T := T) (n := n) (i := i)
  have n0 : ¬ nI (tcI T n i) = nI 0 := d_ne (by omega) (by decide) t0
  have fin : ∀ (z : Option (Int32 × aH)) (o : OD), f_X2_readCase_b29 42 (nI 1) (nI x) h = (bd2 z fun t k => f_X2_readCase_j141 k 42 t (nI x)) → OCc h0 c T n m z o → (∀ i' r, o = .inr (i', r) → i < i') → (∀ f q, o = .inl (f, q) → f ≠ 0 ∧ f < 100 ∧ ∃ h', f_X2_readCase_b29 42 (nI 1) (nI x) h = some (.inl (nI 0, nI (x + 1), h')) ∧ FR h0 h' (LCc c) (LJc c) [] [] ∧ FL h' f q) ∧ (∀ i' A' V' B' Q', o = .inr (i', A', V', B', Q') → i < i' ∧ DV A' V' B' Q' ∧ ∃ h', f_X2_readCase_b29 42 (nI 1) (nI x) h = some (.inl (nI 1, nI (x + 1), h')) ∧ DC h0 h' c T n m i' A' V' B' Q') := fun z o ez oc lt => by
    refine ⟨fun f q e => ?_, fun i' A' V' B' Q' e => ?_⟩
    · subst e
      obtain ⟨y1, y2, h', y3, y4, y5⟩ := oc
      exact ⟨y1, y2, h', by rw [ez, y3]; simp (disch := first | assumption | omega | decide | ((repeat first | apply lyI | apply lyJ | apply lywI | apply lywJ | apply csI | apply csJ | apply cswI | apply cswJ); assumption)) only [f_X2_readCase_j141, LI, ↓li_m1, nI_add, pk_mul, nn_sub, nn_m1, nn_div, nn_rem, nn_nz, nn_mod, nJ_l, lN_add, lN_mul, nn_tb1, nI_bt, nn_and, nn_or, nn_xor, nn_shr, nn_1shl, nn_31, il_p, il_n, it_p, it_n, ie_p, ie_n, ie_b, ie_b1, ie_m, ie_mm, it_m, it_m0, il_m0, bI_rZ, Option.bind_some, bd2_some, Nat.add_zero, Nat.zero_add, if_true, if_false, Bool.false_eq_true, eq_self, hI_R, hJ_R, ng_t, ng_e], y4, y5⟩
    · subst e
      obtain ⟨y1, h', y3, y4⟩ := oc
      exact ⟨lt i' _ rfl, y1, h', by rw [ez, y3]; simp (disch := first | assumption | omega | decide | ((repeat first | apply lyI | apply lyJ | apply lywI | apply lywJ | apply csI | apply csJ | apply cswI | apply cswJ); assumption)) only [f_X2_readCase_j141, LI, ↓li_m1, nI_add, pk_mul, nn_sub, nn_m1, nn_div, nn_rem, nn_nz, nn_mod, nJ_l, lN_add, lN_mul, nn_tb1, nI_bt, nn_and, nn_or, nn_xor, nn_shr, nn_1shl, nn_31, il_p, il_n, it_p, it_n, ie_p, ie_n, ie_b, ie_b1, ie_m, ie_mm, it_m, it_m0, il_m0, bI_rZ, Option.bind_some, bd2_some, Nat.add_zero, Nat.zero_add, if_true, if_false, Bool.false_eq_true, eq_self, hI_R, hJ_R, ng_t, ng_e], y4⟩
  by_cases t8 : tcI T n i = 8
  · obtain ⟨o, oc, lt, rf⟩ := o_fact d dv t8
    rw [t8] at e10 n0
    obtain ⟨y1, y2⟩ := fin (f_X2_readFact h 42) o (by simp (disch := first | assumption | omega | decide | ((repeat first | apply lyI | apply lyJ | apply lywI | apply lywJ | apply csI | apply csJ | apply cswI | apply cswJ); assumption)) only [f_X2_readCase_b29, SR, SX, LI, ↓li_m1, nI_add, pk_mul, nn_sub, nn_m1, nn_div, nn_rem, nn_nz, nn_mod, nJ_l, lN_add, lN_mul, nn_tb1, nI_bt, nn_and, nn_or, nn_xor, nn_shr, nn_1shl, nn_31, il_p, il_n, it_p, it_n, ie_p, ie_n, ie_b, ie_b1, ie_m, ie_mm, it_m, it_m0, il_m0, bI_rZ, Option.bind_some, bd2_some, Nat.add_zero, Nat.zero_add, if_true, if_false, Bool.false_eq_true, eq_self, hI_R, hJ_R, ng_t, ng_e, e10]) oc lt
    exact ⟨o, y1, y2, rf⟩
  have n8 : ¬ nI (tcI T n i) = nI 8 := d_ne (by omega) (by decide) t8
  by_cases t10 : tcI T n i = 10
  · obtain ⟨o, oc, lt, rf⟩ := o_never d dv t10
    rw [t10] at e10 n0
    obtain ⟨y1, y2⟩ := fin (f_X2_readNever h 42) o (by simp (disch := first | assumption | omega | decide | ((repeat first | apply lyI | apply lyJ | apply lywI | apply lywJ | apply csI | apply csJ | apply cswI | apply cswJ); assumption)) only [f_X2_readCase_b29, SR, SX, LI, ↓li_m1, nI_add, pk_mul, nn_sub, nn_m1, nn_div, nn_rem, nn_nz, nn_mod, nJ_l, lN_add, lN_mul, nn_tb1, nI_bt, nn_and, nn_or, nn_xor, nn_shr, nn_1shl, nn_31, il_p, il_n, it_p, it_n, ie_p, ie_n, ie_b, ie_b1, ie_m, ie_mm, it_m, it_m0, il_m0, bI_rZ, Option.bind_some, bd2_some, Nat.add_zero, Nat.zero_add, if_true, if_false, Bool.false_eq_true, eq_self, hI_R, hJ_R, ng_t, ng_e, e10]) oc lt
    exact ⟨o, y1, y2, rf⟩
  have n10 : ¬ nI (tcI T n i) = nI 10 := d_ne (by omega) (by decide) t10
  by_cases t11 : tcI T n i = 11
  · obtain ⟨o, oc, lt, rf⟩ := o_quest d dv t11
    rw [t11] at e10 n0
    obtain ⟨y1, y2⟩ := fin (f_X2_readQuestion h 42) o (by simp (disch := first | assumption | omega | decide | ((repeat first | apply lyI | apply lyJ | apply lywI | apply lywJ | apply csI | apply csJ | apply cswI | apply cswJ); assumption)) only [f_X2_readCase_b29, SR, SX, LI, ↓li_m1, nI_add, pk_mul, nn_sub, nn_m1, nn_div, nn_rem, nn_nz, nn_mod, nJ_l, lN_add, lN_mul, nn_tb1, nI_bt, nn_and, nn_or, nn_xor, nn_shr, nn_1shl, nn_31, il_p, il_n, it_p, it_n, ie_p, ie_n, ie_b, ie_b1, ie_m, ie_mm, it_m, it_m0, il_m0, bI_rZ, Option.bind_some, bd2_some, Nat.add_zero, Nat.zero_add, if_true, if_false, Bool.false_eq_true, eq_self, hI_R, hJ_R, ng_t, ng_e, e10]) oc lt
    exact ⟨o, y1, y2, rf⟩
  have n11 : ¬ nI (tcI T n i) = nI 11 := d_ne (by omega) (by decide) t11
  by_cases t14 : tcI T n i = 14
  · obtain ⟨o, oc, lt, rf⟩ := o_wit d dv t14
    rw [t14] at e10 n0
    obtain ⟨y1, y2⟩ := fin (f_X2_readWitness h 42) o (by simp (disch := first | assumption | omega | decide | ((repeat first | apply lyI | apply lyJ | apply lywI | apply lywJ | apply csI | apply csJ | apply cswI | apply cswJ); assumption)) only [f_X2_readCase_b29, SR, SX, LI, ↓li_m1, nI_add, pk_mul, nn_sub, nn_m1, nn_div, nn_rem, nn_nz, nn_mod, nJ_l, lN_add, lN_mul, nn_tb1, nI_bt, nn_and, nn_or, nn_xor, nn_shr, nn_1shl, nn_31, il_p, il_n, it_p, it_n, ie_p, ie_n, ie_b, ie_b1, ie_m, ie_mm, it_m, it_m0, il_m0, bI_rZ, Option.bind_some, bd2_some, Nat.add_zero, Nat.zero_add, if_true, if_false, Bool.false_eq_true, eq_self, hI_R, hJ_R, ng_t, ng_e, e10]) oc lt
    exact ⟨o, y1, y2, rf⟩
  have n14 : ¬ nI (tcI T n i) = nI 14 := d_ne (by omega) (by decide) t14
  obtain ⟨y1, y2⟩ := fin (f_X4_refuseHere h 4 (nI 2)) (.inl (fkN T n i 2, frI T n i)) (by simp (disch := first | assumption | omega | decide | ((repeat first | apply lyI | apply lyJ | apply lywI | apply lywJ | apply csI | apply csJ | apply cswI | apply cswJ); assumption)) only [f_X2_readCase_b29, SR, SX, LI, ↓li_m1, nI_add, pk_mul, nn_sub, nn_m1, nn_div, nn_rem, nn_nz, nn_mod, nJ_l, lN_add, lN_mul, nn_tb1, nI_bt, nn_and, nn_or, nn_xor, nn_shr, nn_1shl, nn_31, il_p, il_n, it_p, it_n, ie_p, ie_n, ie_b, ie_b1, ie_m, ie_mm, it_m, it_m0, il_m0, bI_rZ, Option.bind_some, bd2_some, Nat.add_zero, Nat.zero_add, if_true, if_false, Bool.false_eq_true, eq_self, hI_R, hJ_R, ng_t, ng_e, e10, if_neg n0, if_neg n8, if_neg n10, if_neg n11, if_neg n14]) (x_oth2 d) (fun i' r e => by cases e)
  exact ⟨_, y1, y2, fun k0 k dr => r_oth2 dr t8 t10 t11 t14⟩
abbrev OE : Type := (Nat × Nat) ⊕ (Nat × (Nat → Nat) × (Nat → List Nat) × (Nat → Nat) × (Nat → Nat → Bool))
def OEc (h0 : aH) (c : Nat) (T : Nat → Nat) (n m : Nat) (x : Option (Int32 × aH)) (o : OE) : Prop := match o with
  | .inl (f, q) => f ≠ 0 ∧ f < 100 ∧ ∃ h', x = some (nI 0, h') ∧ FR h0 h' (LCc c) (LJc c) [] [] ∧ FL h' f q
  | .inr (i, A, V, Bv, Q) => DV A V Bv Q ∧ ∃ h', x = some (nI 1, h') ∧ DC h0 h' c T n m i A V Bv Q
def OEr (k0 : aH) (T : Nat → Nat) (n : Nat) (x : Option aH) (o : OE) : Prop := match o with
  | .inl (f, q) => ∃ k', x = some k' ∧ FRR k0 k' ∧ RLx k' f q
  | .inr (i, A, V, Bv, Q) => ∃ k', x = some k' ∧ DR k0 k' T n i A V Bv Q
theorem cln_0 {t : Nat} : (clN t = 0) ↔ t = 0 := by
  unfold clN
  by_cases h0 : t = 0
  · rw [if_pos h0]; omega
  · rw [if_neg h0]
    (repeat' split) <;> omega
theorem o_parts {h0 : aH} {c : Nat} {T : Nat → Nat} {n m : Nat} : ∀ (g x i F : Nat) (h : aH) (A : Nat → Nat) (V : Nat → List Nat) (Bv : Nat → Nat) (Q : Nat → Nat → Bool), m < i + g → x ≤ i → g + 1 < F → DC h0 h c T n m i A V Bv Q → DV A V Bv Q → ∃ o, OEc h0 c T n m (whileL F (fun q : Int32 × Int32 × aH => f_X2_readCase_b29 42 q.1 q.2.1 q.2.2) (nI 1, nI x, h)) o ∧ ∀ k0 k F2, g + 1 < F2 → DR k0 k T n i A V Bv Q → OEr k0 T n (whileL F2 (fun q : Int32 × aH => f_X12_court_b44 113 q.1 q.2) (nI 1, k)) o
  | 0, x, i, F, h, A, V, Bv, Q, hm, hx, hF, d, dv => absurd hm (by have := d.2.1.2.2.2; omega)
  | g + 1, x, i, F, h, A, V, Bv, Q, hm, hx, hF, d, dv => by
    obtain ⟨F', rfl⟩ := ex_s hF
    have lc := d.2.1
    have hl := lc.1
    have hi := lc.2.2.2
    have m9 := (lx_t lc).1
    have e10 : h.2.1 4 10 = nI (tcI T n i) := lc.2.2.1.2.1
    by_cases t0 : tcI T n i = 0
    · rw [t0] at e10
      have e : f_X2_readCase_b29 42 (nI 1) (nI x) h = some (.inr (nI 1, h)) := by simp (disch := first | assumption | omega | decide | ((repeat first | apply lyI | apply lyJ | apply lywI | apply lywJ | apply csI | apply csJ | apply cswI | apply cswJ); assumption)) only [f_X2_readCase_b29, SR, SX, LI, ↓li_m1, nI_add, pk_mul, nn_sub, nn_m1, nn_div, nn_rem, nn_nz, nn_mod, nJ_l, lN_add, lN_mul, nn_tb1, nI_bt, nn_and, nn_or, nn_xor, nn_shr, nn_1shl, nn_31, il_p, il_n, it_p, it_n, ie_p, ie_n, ie_b, ie_b1, ie_m, ie_mm, it_m, it_m0, il_m0, bI_rZ, Option.bind_some, bd2_some, Nat.add_zero, Nat.zero_add, if_true, if_false, Bool.false_eq_true, eq_self, hI_R, hJ_R, ng_t, ng_e, e10]
      refine ⟨.inr (i, A, V, Bv, Q), ?_, fun k0 k F2 hF2 dr => ?_⟩
      · rw [wl_r e]
        exact ⟨dv, h, rfl, d⟩
      · obtain ⟨F3, rfl⟩ := ex_s hF2
        have kl := dr.2.1.1
        have t13 : k.2.1 113 13 = nI (clN (tcI T n i)) := dr.2.1.2.1.2.2.2.1
        rw [cln_0.mpr t0] at t13
        have e2 : f_X12_court_b44 113 (nI 1) k = some (.inr k) := by simp (disch := first | assumption | omega | decide | ((repeat first | apply lyI | apply lyJ | apply lywI | apply lywJ | apply csI | apply csJ | apply cswI | apply cswJ); assumption)) only [f_X12_court_b44, SM, LI, ↓li_m1, nI_add, pk_mul, nn_sub, nn_m1, nn_div, nn_rem, nn_nz, nn_mod, nJ_l, lN_add, lN_mul, nn_tb1, nI_bt, nn_and, nn_or, nn_xor, nn_shr, nn_1shl, nn_31, il_p, il_n, it_p, it_n, ie_p, ie_n, ie_b, ie_b1, ie_m, ie_mm, it_m, it_m0, il_m0, bI_rZ, Option.bind_some, bd2_some, Nat.add_zero, Nat.zero_add, if_true, if_false, Bool.false_eq_true, eq_self, hI_R, hJ_R, ng_t, ng_e, t13]
        rw [wl_r e2]
        exact ⟨k, rfl, dr⟩
    · obtain ⟨o, c1, c2, rf⟩ := o_part d dv t0 (x := x) (by omega)
      have ref : ∀ k0 k, DR k0 k T n i A V Bv Q → f_X12_court_b44 113 (nI 1) k = (bd2 (f_X12_casePart k 113) fun t17 h18 => some (.inl (t17, h18))) := fun k0 k dr => by
        have kl := dr.2.1.1
        have t13 : k.2.1 113 13 = nI (clN (tcI T n i)) := dr.2.1.2.1.2.2.2.1
        have cl := cln_lt (t := tcI T n i)
        have nc : ¬ nI (clN (tcI T n i)) = nI 0 := d_ne (by omega) (by decide) (fun e => t0 (cln_0.mp e))
        simp (disch := first | assumption | omega | decide | ((repeat first | apply lyI | apply lyJ | apply lywI | apply lywJ | apply csI | apply csJ | apply cswI | apply cswJ); assumption)) only [f_X12_court_b44, SM, LI, ↓li_m1, nI_add, pk_mul, nn_sub, nn_m1, nn_div, nn_rem, nn_nz, nn_mod, nJ_l, lN_add, lN_mul, nn_tb1, nI_bt, nn_and, nn_or, nn_xor, nn_shr, nn_1shl, nn_31, il_p, il_n, it_p, it_n, ie_p, ie_n, ie_b, ie_b1, ie_m, ie_mm, it_m, it_m0, il_m0, bI_rZ, Option.bind_some, bd2_some, Nat.add_zero, Nat.zero_add, if_true, if_false, Bool.false_eq_true, eq_self, hI_R, hJ_R, ng_t, ng_e, t13, if_neg nc]
      rcases o with ⟨f, q⟩ | ⟨i', A', V', B', Q'⟩
      · obtain ⟨f0, f9, h', e, fr, fl⟩ := c1 f q rfl
        refine ⟨.inl (f, q), ?_, fun k0 k F2 hF2 dr => ?_⟩
        · rw [wl_l e]
          obtain ⟨F3, rfl⟩ : ∃ F3, F' = F3 + 1 := ⟨F' - 1, by omega⟩
          have e2 : f_X2_readCase_b29 42 (nI 0) (nI (x + 1)) h' = some (.inr (nI 0, h')) := by
            by_cases hx9 : 901 ≤ x + 1
            · simp (disch := first | assumption | omega | decide | ((repeat first | apply lyI | apply lyJ | apply lywI | apply lywJ | apply csI | apply csJ | apply cswI | apply cswJ); assumption)) only [f_X2_readCase_b29, LI, ↓li_m1, nI_add, pk_mul, nn_sub, nn_m1, nn_div, nn_rem, nn_nz, nn_mod, nJ_l, lN_add, lN_mul, nn_tb1, nI_bt, nn_and, nn_or, nn_xor, nn_shr, nn_1shl, nn_31, il_p, il_n, it_p, it_n, ie_p, ie_n, ie_b, ie_b1, ie_m, ie_mm, it_m, it_m0, il_m0, bI_rZ, Option.bind_some, bd2_some, Nat.add_zero, Nat.zero_add, if_true, if_false, Bool.false_eq_true, eq_self, hI_R, hJ_R, ng_t, ng_e]
            · simp (disch := first | assumption | omega | decide | ((repeat first | apply lyI | apply lyJ | apply lywI | apply lywJ | apply csI | apply csJ | apply cswI | apply cswJ); assumption)) only [f_X2_readCase_b29, LI, ↓li_m1, nI_add, pk_mul, nn_sub, nn_m1, nn_div, nn_rem, nn_nz, nn_mod, nJ_l, lN_add, lN_mul, nn_tb1, nI_bt, nn_and, nn_or, nn_xor, nn_shr, nn_1shl, nn_31, il_p, il_n, it_p, it_n, ie_p, ie_n, ie_b, ie_b1, ie_m, ie_mm, it_m, it_m0, il_m0, bI_rZ, Option.bind_some, bd2_some, Nat.add_zero, Nat.zero_add, if_true, if_false, Bool.false_eq_true, eq_self, hI_R, hJ_R, ng_t, ng_e]
          rw [wl_r e2]
          exact ⟨f0, f9, h', rfl, fr, fl⟩
        · obtain ⟨F3, rfl⟩ := ex_s hF2
          obtain ⟨k', e2, y1, y2⟩ := rf k0 k dr
          have e3 : f_X12_court_b44 113 (nI 1) k = some (.inl (nI 0, k')) := by rw [ref k0 k dr, e2, bd2_some]
          rw [wl_l e3]
          obtain ⟨F4, rfl⟩ : ∃ F4, F3 = F4 + 1 := ⟨F3 - 1, by omega⟩
          have e4 : f_X12_court_b44 113 (nI 0) k' = some (.inr k') := by simp (disch := first | assumption | omega | decide | ((repeat first | apply lyI | apply lyJ | apply lywI | apply lywJ | apply csI | apply csJ | apply cswI | apply cswJ); assumption)) only [f_X12_court_b44, LI, ↓li_m1, nI_add, pk_mul, nn_sub, nn_m1, nn_div, nn_rem, nn_nz, nn_mod, nJ_l, lN_add, lN_mul, nn_tb1, nI_bt, nn_and, nn_or, nn_xor, nn_shr, nn_1shl, nn_31, il_p, il_n, it_p, it_n, ie_p, ie_n, ie_b, ie_b1, ie_m, ie_mm, it_m, it_m0, il_m0, bI_rZ, Option.bind_some, bd2_some, Nat.add_zero, Nat.zero_add, if_true, if_false, Bool.false_eq_true, eq_self, hI_R, hJ_R, ng_t, ng_e]
          rw [wl_r e4]
          exact ⟨k', rfl, y1, y2⟩
      · obtain ⟨lt, dv', h', e, d'⟩ := c2 i' A' V' B' Q' rfl
        obtain ⟨o2, oc2, or2⟩ := o_parts g (x + 1) i' F' h' A' V' B' Q' (by omega) (by omega) (by omega) d' dv'
        refine ⟨o2, ?_, fun k0 k F2 hF2 dr => ?_⟩
        · rw [wl_l e]
          exact oc2
        · obtain ⟨F3, rfl⟩ := ex_s hF2
          obtain ⟨k', e2, y1⟩ := rf k0 k dr
          have e3 : f_X12_court_b44 113 (nI 1) k = some (.inl (nI 1, k')) := by rw [ref k0 k dr, e2, bd2_some]
          rw [wl_l e3]
          exact or2 k0 k' F3 (by omega) y1
