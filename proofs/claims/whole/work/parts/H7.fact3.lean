/-! ===== cases: the class reads a fact, its values ===== -/
def OFc (h0 : aH) (c : Nat) (T : Nat → Nat) (n m : Nat) (A : Nat → Nat) (Bv : Nat → Nat) (Q : Nat → Nat → Bool) (x : Option (aH ⊕ aH)) (o : FO) : Prop := match o with
  | .inl (f, q) => f ≠ 0 ∧ f < 100 ∧ ∃ h', x = some (.inl h') ∧ FR h0 h' (LCc c) (LJc c) [] [] ∧ FL h' f q
  | .inr (j, _, A', V') => ∃ h', x = some (.inr h') ∧ DCf h0 h' c T n m j A A' V' Bv Q
theorem x_fL {h0 : aH} {c : Nat} {T : Nat → Nat} {n m : Nat} {A : Nat → Nat} {Bv : Nat → Nat} {Q : Nat → Nat → Bool} (a18 : A 1 ≤ 18) (f4 : A 0 < 4) (h3 : A 3 = 0) : ∀ (gf x j F : Nat) (g : aH) (A' : Nat → Nat) (V : Nat → List Nat), x + gf = 7 → x ≤ 6 → gf < F → FXa A A' x → NV (upC (cA A') 0) V → DCf h0 g c T n m j A A' V Bv Q → OFc h0 c T n m A Bv Q (whileL F (fun q : Int32 × aH => f_X2_readFact_b101 42 q.1 q.2) (nI x, g)) (fL T n (A 0) gf x j A' V)
  | 0, x, j, F, g, A', V, hx, x6, hF, fx, nv, d => absurd hx (by omega)
  | gf + 1, x, j, F, g, A', V, hx, x6, hF, fx, nv, d => by
    obtain ⟨F', rfl⟩ := ex_s hF
    have lc := d.1.2.1
    have hl := lc.1
    have e10 : g.2.1 4 10 = nI (tcI T n j) := lc.2.2.1.2.1
    have tl := tc_le (T := T) (n := n) (i := j)
    have lo : ∀ y, y < 8 → y ≠ 1 → A' y = A y := fun y h1 h2 => fx.2.2 y h2 (by omega) (by omega)
    have f1 := fx.1
    by_cases h1 : x ≠ 0 ∧ tcI T n j = 3
    · have e : f_X2_readFact_b101 42 (nI x) g = some (.inr (.inr g)) := by
        have nx : ¬ nI x = nI 0 := d_ne (by omega) (by decide) h1.1
        rw [h1.2] at e10
        simp (disch := first | assumption | omega | decide | ((repeat first | apply lyI | apply lyJ | apply lywI | apply lywJ | apply csI | apply csJ | apply cswI | apply cswJ); assumption)) only [f_X2_readFact_b101, SR, SX, LI, ↓li_m1, nI_add, pk_mul, nn_sub, nn_m1, nn_div, nn_rem, nn_nz, nn_mod, nJ_l, lN_add, lN_mul, nn_tb1, nI_bt, nn_and, nn_or, nn_xor, nn_shr, nn_1shl, nn_31, il_p, il_n, it_p, it_n, ie_p, ie_n, ie_b, ie_b1, ie_m, ie_mm, it_m, it_m0, il_m0, bI_rZ, Option.bind_some, bd2_some, Nat.add_zero, Nat.zero_add, if_true, if_false, Bool.false_eq_true, eq_self, hI_R, hJ_R, ng_t, ng_e, if_neg nx, e10]
      rw [wl_r e, show fL T n (A 0) (gf + 1) x j A' V = .inr (j, x, A', V) from if_pos h1]
      exact ⟨g, rfl, d⟩
    · rw [fL_s h1]
      have xv := x_val (x := x) d ((lo 3 (by decide) (by decide)).trans h3) (fun hx6 => by omega) (lo 0 (by decide) (by decide)) f4 (by omega) nv
      have eb : f_X2_readFact_b101 42 (nI x) g = f_X2_readFact_j122 g 42 (nI x) := by
        by_cases h0 : x = 0
        · subst h0
          simp (disch := first | assumption | omega | decide | ((repeat first | apply lyI | apply lyJ | apply lywI | apply lywJ | apply csI | apply csJ | apply cswI | apply cswJ); assumption)) only [f_X2_readFact_b101, LI, ↓li_m1, nI_add, pk_mul, nn_sub, nn_m1, nn_div, nn_rem, nn_nz, nn_mod, nJ_l, lN_add, lN_mul, nn_tb1, nI_bt, nn_and, nn_or, nn_xor, nn_shr, nn_1shl, nn_31, il_p, il_n, it_p, it_n, ie_p, ie_n, ie_b, ie_b1, ie_m, ie_mm, it_m, it_m0, il_m0, bI_rZ, Option.bind_some, bd2_some, Nat.add_zero, Nat.zero_add, if_true, if_false, Bool.false_eq_true, eq_self, hI_R, hJ_R, ng_t, ng_e]
        · have nx : ¬ nI x = nI 0 := d_ne (by omega) (by decide) h0
          have n3 : ¬ nI (tcI T n j) = nI 3 := d_ne (by omega) (by decide) (fun e => h1 ⟨h0, e⟩)
          simp (disch := first | assumption | omega | decide | ((repeat first | apply lyI | apply lyJ | apply lywI | apply lywJ | apply csI | apply csJ | apply cswI | apply cswJ); assumption)) only [f_X2_readFact_b101, SR, SX, LI, ↓li_m1, nI_add, pk_mul, nn_sub, nn_m1, nn_div, nn_rem, nn_nz, nn_mod, nJ_l, lN_add, lN_mul, nn_tb1, nI_bt, nn_and, nn_or, nn_xor, nn_shr, nn_1shl, nn_31, il_p, il_n, it_p, it_n, ie_p, ie_n, ie_b, ie_b1, ie_m, ie_mm, it_m, it_m0, il_m0, bI_rZ, Option.bind_some, bd2_some, Nat.add_zero, Nat.zero_add, if_true, if_false, Bool.false_eq_true, eq_self, hI_R, hJ_R, ng_t, ng_e, if_neg nx, e10, if_neg n3]
      cases hv : vO T n (A 0) x j A' V with
      | inl q =>
        obtain ⟨a, b⟩ := q
        rw [hv] at xv
        obtain ⟨y1, y2, h', y3, y4, y5⟩ := xv
        have e : f_X2_readFact_b101 42 (nI x) g = some (.inr (.inl h')) := by
          rw [eb]
          simp (disch := first | assumption | omega | decide | ((repeat first | apply lyI | apply lyJ | apply lywI | apply lywJ | apply csI | apply csJ | apply cswI | apply cswJ); assumption)) only [f_X2_readFact_j122, SR, LI, ↓li_m1, nI_add, pk_mul, nn_sub, nn_m1, nn_div, nn_rem, nn_nz, nn_mod, nJ_l, lN_add, lN_mul, nn_tb1, nI_bt, nn_and, nn_or, nn_xor, nn_shr, nn_1shl, nn_31, il_p, il_n, it_p, it_n, ie_p, ie_n, ie_b, ie_b1, ie_m, ie_mm, it_m, it_m0, il_m0, bI_rZ, Option.bind_some, bd2_some, Nat.add_zero, Nat.zero_add, if_true, if_false, Bool.false_eq_true, eq_self, hI_R, hJ_R, ng_t, ng_e, y3]
        rw [wl_r e]
        exact ⟨y1, y2, h', rfl, y4, y5⟩
      | inr q =>
        obtain ⟨j', A1, V1⟩ := q
        rw [hv] at xv
        obtain ⟨h', y3, y4⟩ := xv
        have e : f_X2_readFact_b101 42 (nI x) g = some (.inl (nI (x + 1), h')) := by
          rw [eb]
          simp (disch := first | assumption | omega | decide | ((repeat first | apply lyI | apply lyJ | apply lywI | apply lywJ | apply csI | apply csJ | apply cswI | apply cswJ); assumption)) only [f_X2_readFact_j122, SR, LI, ↓li_m1, nI_add, pk_mul, nn_sub, nn_m1, nn_div, nn_rem, nn_nz, nn_mod, nJ_l, lN_add, lN_mul, nn_tb1, nI_bt, nn_and, nn_or, nn_xor, nn_shr, nn_1shl, nn_31, il_p, il_n, it_p, it_n, ie_p, ie_n, ie_b, ie_b1, ie_m, ie_mm, it_m, it_m0, il_m0, bI_rZ, Option.bind_some, bd2_some, Nat.add_zero, Nat.zero_add, if_true, if_false, Bool.false_eq_true, eq_self, hI_R, hJ_R, ng_t, ng_e, y3]
        rw [wl_l e]
        have st : x < 6 ∧ FXa A A1 (x + 1) ∧ NV (upC (cA A1) 0) V1 := by
          unfold vO at hv
          cases hb : nwB T n j (upC (cA A') 0) V with
          | false => rw [if_pos hb] at hv; cases hv
          | true =>
            rw [if_neg (by rw [hb]; decide)] at hv
            by_cases h6 : x = 6
            · rw [if_pos h6] at hv; cases hv
            · rw [if_neg h6] at hv
              by_cases h2 : tcI T n (j + 1) = 2
              · rw [if_pos h2] at hv
                by_cases h9 : 1 ≤ nuI T n (j + 1) ∧ nuI T n (j + 1) ≤ 9
                · rw [if_pos h9] at hv
                  cases hv
                  exact ⟨by omega, fx_s (by omega) fx h9.1 h9.2, nv_1 nv (by omega) hb⟩
                · rw [if_neg h9] at hv; cases hv
              · rw [if_neg h2] at hv
                cases hv
                exact ⟨by omega, fx_s (by omega) fx (by decide) (by decide), nv_1 nv (by omega) hb⟩
        exact x_fL a18 f4 h3 gf (x + 1) j' F' h' A1 V1 (by omega) (by have := st.1; omega) (by omega) st.2.1 st.2.2 y4
/-- the fact's end -/
theorem x_close {h0 h : aH} {c : Nat} {T : Nat → Nat} {n m j : Nat} {A A' : Nat → Nat} {V : Nat → List Nat} {Bv : Nat → Nat} {Q : Nat → Nat → Bool} {x : Nat} (d : DCf h0 h c T n m j A A' V Bv Q) (fx : FXa A A' x) (a18 : A 1 ≤ 18) (f4 : A 0 < 4) (h3 : A 3 = 0) (x6 : x ≤ 6) (w2 : A 2 ≤ 256) (t3 : tcI T n j = 3) (dv : ¬ (x < 2 ∨ 256 < A 2 * x) → DV (cF A' (A 0) (A 1) x) V Bv Q) : OCc h0 c T n m (f_X2_readFact_j138 h 42) (if x < 2 ∨ 256 < A 2 * x then .inl (8, frI T n j) else .inr (j + 1, cF A' (A 0) (A 1) x, V, Bv, Q)) := by
  obtain ⟨⟨d1, lc, hs, h6, nc, dca, dn, dw⟩, d5⟩ := id d
  have hl := lc.1
  have c0 := hs.1
  obtain ⟨f1, f2, f3⟩ := id fx
  have lo : ∀ y, y < 8 → y ≠ 1 → A' y = A y := fun y h1 h2 => f3 y h2 (by omega) (by omega)
  obtain ⟨⟨g12, g13, g14, g16, g17, g18⟩, gf, gv, gq, gw⟩ := id dca
  rw [lo 0 (by decide) (by decide)] at g12 gf
  rw [f1] at g13
  rw [lo 2 (by decide) (by decide)] at g14
  have sub : A 1 + x - A 1 = x := by omega
  by_cases h8 : x < 2 ∨ 256 < A 2 * x
  · rw [if_pos h8]
    obtain ⟨h', r, f, l⟩ := x_ref lc 8
    rw [fk_n (by omega)] at l
    refine dcm_fl d.1 (by decide) (by decide) f l ?_
    rcases h8 with h8 | h8
    · simp (disch := first | assumption | omega | decide | ((repeat first | apply lyI | apply lyJ | apply lywI | apply lywJ | apply csI | apply csJ | apply cswI | apply cswJ); assumption)) only [f_X2_readFact_j138, f_X2_closeFact, f_X2_closeFact_j44, SR, SX, SC, LI, ↓li_m1, nI_add, pk_mul, nn_sub, nn_m1, nn_div, nn_rem, nn_nz, nn_mod, nJ_l, lN_add, lN_mul, nn_tb1, nI_bt, nn_and, nn_or, nn_xor, nn_shr, nn_1shl, nn_31, il_p, il_n, it_p, it_n, ie_p, ie_n, ie_b, ie_b1, ie_m, ie_mm, it_m, it_m0, il_m0, bI_rZ, Option.bind_some, bd2_some, Nat.add_zero, Nat.zero_add, if_true, if_false, Bool.false_eq_true, eq_self, hI_R, hJ_R, ng_t, ng_e, h6, g12, g13, d5, sub, r, rz0]
    · have xx : ¬ x < 2 := fun e => by
        have : A 2 * x ≤ 256 * 1 := Nat.mul_le_mul w2 (by omega)
        omega
      have m1' : A 2 * x ≤ 256 * 6 := Nat.mul_le_mul w2 x6
      simp (disch := first | assumption | omega | decide | ((repeat first | apply lyI | apply lyJ | apply lywI | apply lywJ | apply csI | apply csJ | apply cswI | apply cswJ); assumption)) only [f_X2_readFact_j138, f_X2_closeFact, f_X2_closeFact_j44, SR, SX, SC, LI, ↓li_m1, nI_add, pk_mul, nn_sub, nn_m1, nn_div, nn_rem, nn_nz, nn_mod, nJ_l, lN_add, lN_mul, nn_tb1, nI_bt, nn_and, nn_or, nn_xor, nn_shr, nn_1shl, nn_31, il_p, il_n, it_p, it_n, ie_p, ie_n, ie_b, ie_b1, ie_m, ie_mm, it_m, it_m0, il_m0, bI_rZ, Option.bind_some, bd2_some, Nat.add_zero, Nat.zero_add, if_true, if_false, Bool.false_eq_true, eq_self, hI_R, hJ_R, ng_t, ng_e, h6, g12, g13, d5, sub, g14, r, rz0]
  · rw [if_neg h8]
    have x2 : 2 ≤ x := by omega
    have w : A 2 * x ≤ 256 := by omega
    let h1 := hI (hI (hI h c 14 (nI (A 2 * x))) c 12 (nI (A 0 + 1))) (c + 5) (A 0 + 1) (nI (A 1 + x))
    have fm : FR h h1 [c, c + 5] [] [] [] := ((FR.hI (by simp) (by omega) (by omega)).tr (FR.hI (by simp) (by omega) (by omega))).tr (FR.hI (by simp) (by omega) (by omega))
    have l1 : LAY h1 := hl
    have s1 : CS h1 c := hs
    have lc1 := lc_fr fm (by intro y hy; simp at hy; omega) (by simp) lc
    rcases x_take (w := 3) lc1 (by decide) (by decide) with ⟨t, h2, r, f, l⟩ | ⟨t, -⟩
    · have q12 : (hI h c 14 (nI (A 2 * x))).2.1 c 12 = nI (A 0) := by rw [rI_nk (by decide)]; exact g12
      have q12b : (hI (hI h c 14 (nI (A 2 * x))) c 12 (nI (A 0 + 1))).2.1 c 12 = nI (A 0 + 1) := rI_eq
      have q13 : (hI (hI h c 14 (nI (A 2 * x))) c 12 (nI (A 0 + 1))).2.1 c 13 = nI (A 1 + x) := by rw [rI_nk (by decide), rI_nk (by decide)]; exact g13
      have r' : f_X4_take (hI (hI (hI h c 14 (nI (A 2 * x))) c 12 (nI (A 0 + 1))) (c + 5) (A 0 + 1) (nI (A 1 + x))) 4 (nI 3) = some (nI 1, h2) := r
      have e : f_X2_readFact_j138 h 42 = some (nI 1, h2) := by
        simp (disch := first | assumption | omega | decide | ((repeat first | apply lyI | apply lyJ | apply lywI | apply lywJ | apply csI | apply csJ | apply cswI | apply cswJ); assumption)) only [f_X2_readFact_j138, f_X2_closeFact, SR, SX, SC, LI, ↓li_m1, nI_add, pk_mul, nn_sub, nn_m1, nn_div, nn_rem, nn_nz, nn_mod, nJ_l, lN_add, lN_mul, nn_tb1, nI_bt, nn_and, nn_or, nn_xor, nn_shr, nn_1shl, nn_31, il_p, il_n, it_p, it_n, ie_p, ie_n, ie_b, ie_b1, ie_m, ie_mm, it_m, it_m0, il_m0, bI_rZ, Option.bind_some, bd2_some, Nat.add_zero, Nat.zero_add, if_true, if_false, Bool.false_eq_true, eq_self, hI_R, hJ_R, ng_t, ng_e, h6, g12, g13, d5, sub, g14, q12, q12b, q13, r', rz1]
      have fz : FR h h2 [4, c, c + 5] [4] [] [] := (fm.mono (by simp) (by simp) (by simp) (by simp)).tr (f.mono (by simp) (by simp) (by simp) (by simp))
      have eI : ∀ j, j < 16 → j ≠ 0 → j ≠ 5 → h2.2.1 (c + j) = h.2.1 (c + j) := fun j hj j0 j5 => fz.I _ (by simp <;> omega) (by omega) (by omega)
      have ec : ∀ k, h2.2.1 c k = if k = 12 then nI (A 0 + 1) else if k = 14 then nI (A 2 * x) else h.2.1 c k := fun k => by
        rw [f.I c (by simp <;> omega) (by omega) (by omega)]
        show (hI (hI (hI h c 14 (nI (A 2 * x))) c 12 (nI (A 0 + 1))) (c + 5) (A 0 + 1) (nI (A 1 + x))).2.1 c k = _
        rw [rI_ne (by omega)]
        by_cases e1 : k = 12
        · rw [if_pos e1, e1, rI_eq]
        · rw [if_neg e1, rI_nk e1]
          by_cases e2 : k = 14
          · rw [if_pos e2, e2, rI_eq]
          · rw [if_neg e2, rI_nk e2]
      have e5 : ∀ k, h2.2.1 (c + 5) k = if k = A 0 + 1 then nI (A 1 + x) else h.2.1 (c + 5) k := fun k => by
        rw [f.I (c + 5) (by simp <;> omega) (by omega) (by omega)]
        show (hI (hI (hI h c 14 (nI (A 2 * x))) c 12 (nI (A 0 + 1))) (c + 5) (A 0 + 1) (nI (A 1 + x))).2.1 (c + 5) k = _
        by_cases e1 : k = A 0 + 1
        · rw [if_pos e1, e1, rI_eq]
        · rw [if_neg e1, rI_nk e1, rI_ne (by omega), rI_ne (by omega)]
      obtain ⟨v0, v2, v5, v6⟩ := cf_v (A' := A') (f := A 0) (a := A 1) (x := x)
      have cn : ∀ y, y ≠ 0 → y ≠ 2 → y ≠ 56 + A 0 → y ≠ 60 + A 0 → cF A' (A 0) (A 1) x y = A' y := fun y a b c' d' => cf_n a b c' d'
      have c1 : cF A' (A 0) (A 1) x 1 = A 1 + x := by rw [cn 1 (by decide) (by decide) (by omega) (by omega), f1]
      have c2 : cF A' (A 0) (A 1) x 2 = A 2 * x := by rw [v2, lo 2 (by decide) (by decide)]
      have c3 : cF A' (A 0) (A 1) x 3 = A' 3 := cn 3 (by decide) (by decide) (by omega) (by omega)
      have c4 : cF A' (A 0) (A 1) x 4 = A' 4 := cn 4 (by decide) (by decide) (by omega) (by omega)
      have my : pk4 (myN (cF A' (A 0) (A 1) x)) = pk4 (myN A') := by
        have e : ∀ u, u < 4 → myN (cF A' (A 0) (A 1) x) u = myN A' u := fun u hu => by
          unfold myN mayN
          rw [c4]
          by_cases h4 : u < A' 4
          · rw [if_pos h4, if_pos h4]
            exact orN_congr (fun k hk => by rw [cn _ (by omega) (by omega) (by omega) (by omega)])
          · rw [if_neg h4, if_neg h4]
        unfold pk4
        rw [e 0 (by decide), e 1 (by decide), e 2 (by decide), e 3 (by decide)]
      refine ⟨dv h8, h2, e, d1.tr (fz.mono (by intro x hx; unfold LCc; simp at hx ⊢; omega) (by intro x hx; unfold LJc; simp at hx ⊢; omega) (by simp) (by simp)), l, cs_fr fz hs, by rw [fz.2.1]; exact h6, ?_, ?_, ?_, Or.inl ⟨by rw [c3, lo 3 (by decide) (by decide)]; exact h3, ?_⟩⟩
      · rw [cf_cA (lo 0 (by decide) (by decide))]
        exact nc_fr fz hs (by simp <;> omega) (by simp <;> omega) (by simp <;> omega) (by simp <;> omega) nc
      · unfold DCa
        rw [eI 7 (by decide) (by decide) (by decide), eI 8 (by decide) (by decide) (by decide), eI 11 (by decide) (by decide) (by decide), eI 12 (by decide) (by decide) (by decide), eI 13 (by decide) (by decide) (by decide), eI 14 (by decide) (by decide) (by decide), ec 12, ec 13, ec 14, ec 16, ec 17, ec 18, v0, c1, c2, c3, c4, my]
        refine ⟨⟨rfl, g13, rfl, g16, g17, g18⟩, fun f hf => ?_, fun v hv => ?_, fun q hq => absurd hq (by rw [lo 3 (by decide) (by decide)]; omega), fun v hv => ?_⟩
        · rw [e5, e5]
          by_cases e' : f = A 0
          · rw [e', if_neg (by omega), if_pos rfl, v5, v6]
            exact ⟨d5, rfl⟩
          · have q := gf f (by omega)
            rw [if_neg (by omega), if_neg (by omega), cn _ (by omega) (by omega) (by omega) (by omega), cn _ (by omega) (by omega) (by omega) (by omega)]
            exact q
        · rw [cn _ (by omega) (by omega) (by omega) (by omega), cn _ (by omega) (by omega) (by omega) (by omega)]
          exact gv v (by omega)
        · rw [cn _ (by omega) (by omega) (by omega) (by omega), cn _ (by omega) (by omega) (by omega) (by omega)]
          refine ⟨fun k hk => ?_, (gw v hv).2⟩
          rw [cn _ (by omega) (by omega) (by omega) (by omega)]
          exact (gw v hv).1 k hk
      · rw [fz.I 48 (by simp <;> omega) (by decide) (by decide)]
        exact dn
      · rw [fz.I 42 (by simp <;> omega) (by decide) (by decide)]
        rcases dw with dw | dw
        · exact dw.2
        · exact absurd dw.1 (by rw [lo 3 (by decide) (by decide)]; omega)
    · exact absurd t3 t
theorem x_fact {h0 h : aH} {c : Nat} {T : Nat → Nat} {n m i : Nat} {A : Nat → Nat} {V : Nat → List Nat} {Bv : Nat → Nat} {Q : Nat → Nat → Bool} (d : DC h0 h c T n m i A V Bv Q) (dv : DV A V Bv Q) (t : tcI T n i = 8) : OCc h0 c T n m (f_X2_readFact h 42) (fO T n i A V Bv Q) := by
  obtain ⟨d1, lc, hs, h6, nc, dca, dn, dw⟩ := id d
  obtain ⟨wf, nv, a2, bb, -, -, -, vf, sq⟩ := id dv
  obtain ⟨b0, b1, b2l, b2, b3, b4⟩ := wf_b wf
  have s6 := sq_6 sq wf
  have hl := lc.1
  have c0 := hs.1
  have e12 : h.2.1 c 12 = nI (A 0) := dca.1.1
  have e16 : h.2.1 c 16 = nI (A 3) := dca.1.2.2.2.1
  unfold fO
  by_cases h0' : A 0 = 4
  · rw [if_pos h0']
    rw [h0'] at e12
    obtain ⟨h', r, f, l⟩ := x_ref lc 6
    rw [fk_n (by omega)] at l
    exact dc_fl d (by decide) (by decide) f l (by rw [u_X2_readFact_e]; simp (disch := first | assumption | omega | decide | ((repeat first | apply lyI | apply lyJ | apply lywI | apply lywJ | apply csI | apply csJ | apply cswI | apply cswJ); assumption)) only [SR, SX, SC, LI, ↓li_m1, nI_add, pk_mul, nn_sub, nn_m1, nn_div, nn_rem, nn_nz, nn_mod, nJ_l, lN_add, lN_mul, nn_tb1, nI_bt, nn_and, nn_or, nn_xor, nn_shr, nn_1shl, nn_31, il_p, il_n, it_p, it_n, ie_p, ie_n, ie_b, ie_b1, ie_m, ie_mm, it_m, it_m0, il_m0, bI_rZ, Option.bind_some, bd2_some, Nat.add_zero, Nat.zero_add, if_true, if_false, Bool.false_eq_true, eq_self, hI_R, hJ_R, ng_t, ng_e, h6, e12, r, rz0]; try (unfold u_X2_readFact_c3; simp (disch := first | assumption | omega | decide | ((repeat first | apply lyI | apply lyJ | apply lywI | apply lywJ | apply csI | apply csJ | apply cswI | apply cswJ); assumption)) only [SR, SX, SC, LI, ↓li_m1, nI_add, pk_mul, nn_sub, nn_m1, nn_div, nn_rem, nn_nz, nn_mod, nJ_l, lN_add, lN_mul, nn_tb1, nI_bt, nn_and, nn_or, nn_xor, nn_shr, nn_1shl, nn_31, il_p, il_n, it_p, it_n, ie_p, ie_n, ie_b, ie_b1, ie_m, ie_mm, it_m, it_m0, il_m0, bI_rZ, Option.bind_some, bd2_some, Nat.add_zero, Nat.zero_add, if_true, if_false, Bool.false_eq_true, eq_self, hI_R, hJ_R, ng_t, ng_e, h6, e12, r, rz0]); try (unfold u_X2_readFact_c2; simp (disch := first | assumption | omega | decide | ((repeat first | apply lyI | apply lyJ | apply lywI | apply lywJ | apply csI | apply csJ | apply cswI | apply cswJ); assumption)) only [SR, SX, SC, LI, ↓li_m1, nI_add, pk_mul, nn_sub, nn_m1, nn_div, nn_rem, nn_nz, nn_mod, nJ_l, lN_add, lN_mul, nn_tb1, nI_bt, nn_and, nn_or, nn_xor, nn_shr, nn_1shl, nn_31, il_p, il_n, it_p, it_n, ie_p, ie_n, ie_b, ie_b1, ie_m, ie_mm, it_m, it_m0, il_m0, bI_rZ, Option.bind_some, bd2_some, Nat.add_zero, Nat.zero_add, if_true, if_false, Bool.false_eq_true, eq_self, hI_R, hJ_R, ng_t, ng_e, h6, e12, r, rz0]); try (unfold u_X2_readFact_c1; simp (disch := first | assumption | omega | decide | ((repeat first | apply lyI | apply lyJ | apply lywI | apply lywJ | apply csI | apply csJ | apply cswI | apply cswJ); assumption)) only [SR, SX, SC, LI, ↓li_m1, nI_add, pk_mul, nn_sub, nn_m1, nn_div, nn_rem, nn_nz, nn_mod, nJ_l, lN_add, lN_mul, nn_tb1, nI_bt, nn_and, nn_or, nn_xor, nn_shr, nn_1shl, nn_31, il_p, il_n, it_p, it_n, ie_p, ie_n, ie_b, ie_b1, ie_m, ie_mm, it_m, it_m0, il_m0, bI_rZ, Option.bind_some, bd2_some, Nat.add_zero, Nat.zero_add, if_true, if_false, Bool.false_eq_true, eq_self, hI_R, hJ_R, ng_t, ng_e, h6, e12, r, rz0]))
  rw [if_neg h0']
  by_cases h3 : 0 < A 3
  · rw [if_pos h3]
    obtain ⟨h', r, f, l⟩ := x_ref lc 7
    rw [fk_n (by omega)] at l
    exact dc_fl d (by decide) (by decide) f l (by rw [u_X2_readFact_e]; simp (disch := first | assumption | omega | decide | ((repeat first | apply lyI | apply lyJ | apply lywI | apply lywJ | apply csI | apply csJ | apply cswI | apply cswJ); assumption)) only [SR, SX, SC, LI, ↓li_m1, nI_add, pk_mul, nn_sub, nn_m1, nn_div, nn_rem, nn_nz, nn_mod, nJ_l, lN_add, lN_mul, nn_tb1, nI_bt, nn_and, nn_or, nn_xor, nn_shr, nn_1shl, nn_31, il_p, il_n, it_p, it_n, ie_p, ie_n, ie_b, ie_b1, ie_m, ie_mm, it_m, it_m0, il_m0, bI_rZ, Option.bind_some, bd2_some, Nat.add_zero, Nat.zero_add, if_true, if_false, Bool.false_eq_true, eq_self, hI_R, hJ_R, ng_t, ng_e, h6, e12, e16, r, rz0]; try (unfold u_X2_readFact_c3; simp (disch := first | assumption | omega | decide | ((repeat first | apply lyI | apply lyJ | apply lywI | apply lywJ | apply csI | apply csJ | apply cswI | apply cswJ); assumption)) only [SR, SX, SC, LI, ↓li_m1, nI_add, pk_mul, nn_sub, nn_m1, nn_div, nn_rem, nn_nz, nn_mod, nJ_l, lN_add, lN_mul, nn_tb1, nI_bt, nn_and, nn_or, nn_xor, nn_shr, nn_1shl, nn_31, il_p, il_n, it_p, it_n, ie_p, ie_n, ie_b, ie_b1, ie_m, ie_mm, it_m, it_m0, il_m0, bI_rZ, Option.bind_some, bd2_some, Nat.add_zero, Nat.zero_add, if_true, if_false, Bool.false_eq_true, eq_self, hI_R, hJ_R, ng_t, ng_e, h6, e12, e16, r, rz0]); try (unfold u_X2_readFact_c2; simp (disch := first | assumption | omega | decide | ((repeat first | apply lyI | apply lyJ | apply lywI | apply lywJ | apply csI | apply csJ | apply cswI | apply cswJ); assumption)) only [SR, SX, SC, LI, ↓li_m1, nI_add, pk_mul, nn_sub, nn_m1, nn_div, nn_rem, nn_nz, nn_mod, nJ_l, lN_add, lN_mul, nn_tb1, nI_bt, nn_and, nn_or, nn_xor, nn_shr, nn_1shl, nn_31, il_p, il_n, it_p, it_n, ie_p, ie_n, ie_b, ie_b1, ie_m, ie_mm, it_m, it_m0, il_m0, bI_rZ, Option.bind_some, bd2_some, Nat.add_zero, Nat.zero_add, if_true, if_false, Bool.false_eq_true, eq_self, hI_R, hJ_R, ng_t, ng_e, h6, e12, e16, r, rz0]); try (unfold u_X2_readFact_c1; simp (disch := first | assumption | omega | decide | ((repeat first | apply lyI | apply lyJ | apply lywI | apply lywJ | apply csI | apply csJ | apply cswI | apply cswJ); assumption)) only [SR, SX, SC, LI, ↓li_m1, nI_add, pk_mul, nn_sub, nn_m1, nn_div, nn_rem, nn_nz, nn_mod, nJ_l, lN_add, lN_mul, nn_tb1, nI_bt, nn_and, nn_or, nn_xor, nn_shr, nn_1shl, nn_31, il_p, il_n, it_p, it_n, ie_p, ie_n, ie_b, ie_b1, ie_m, ie_mm, it_m, it_m0, il_m0, bI_rZ, Option.bind_some, bd2_some, Nat.add_zero, Nat.zero_add, if_true, if_false, Bool.false_eq_true, eq_self, hI_R, hJ_R, ng_t, ng_e, h6, e12, e16, r, rz0]))
  rw [if_neg h3]
  have z3 : A 3 = 0 := by omega
  rw [z3] at e16
  obtain ⟨h4, r4, f4, lc4⟩ := x_adv lc (lc_lt lc (by omega))
  have d4 := dc_4 d f4 lc4
  have l4 := lc4.1
  have h46 := d4.2.2.2.1
  have e12' : h4.2.1 c 12 = nI (A 0) := d4.2.2.2.2.2.1.1.1
  obtain ⟨u1, u2⟩ := x_newName lc4 d4.2.2.1 h46 d4.2.2.2.2.1 nv (s := 0) (by decide) (show A 0 < 4 by omega)
  have s4 := d4.2.2.1
  cases hb : nwB T n (i + 1) (cA A) V with
  | false =>
    rw [if_pos rfl]
    obtain ⟨h9, r, f, l⟩ := u2 hb
    have r' : f_X2_takeNewName h4 42 (nI 0) (nI (A 0)) = some (nI 0, h9) := r
    obtain ⟨n1, n2⟩ := nf_b (T := T) (n := n) (i := i + 1)
    exact dc_fl d4 n1 n2 f l (by rw [u_X2_readFact_e]; simp (disch := first | assumption | omega | decide | ((repeat first | apply lyI | apply lyJ | apply lywI | apply lywJ | apply csI | apply csJ | apply cswI | apply cswJ); assumption)) only [SR, SX, SC, LI, ↓li_m1, nI_add, pk_mul, nn_sub, nn_m1, nn_div, nn_rem, nn_nz, nn_mod, nJ_l, lN_add, lN_mul, nn_tb1, nI_bt, nn_and, nn_or, nn_xor, nn_shr, nn_1shl, nn_31, il_p, il_n, it_p, it_n, ie_p, ie_n, ie_b, ie_b1, ie_m, ie_mm, it_m, it_m0, il_m0, bI_rZ, Option.bind_some, bd2_some, Nat.add_zero, Nat.zero_add, if_true, if_false, Bool.false_eq_true, eq_self, hI_R, hJ_R, ng_t, ng_e, h6, e12, e16, r4, h46, e12', r']; try (unfold u_X2_readFact_c3; simp (disch := first | assumption | omega | decide | ((repeat first | apply lyI | apply lyJ | apply lywI | apply lywJ | apply csI | apply csJ | apply cswI | apply cswJ); assumption)) only [SR, SX, SC, LI, ↓li_m1, nI_add, pk_mul, nn_sub, nn_m1, nn_div, nn_rem, nn_nz, nn_mod, nJ_l, lN_add, lN_mul, nn_tb1, nI_bt, nn_and, nn_or, nn_xor, nn_shr, nn_1shl, nn_31, il_p, il_n, it_p, it_n, ie_p, ie_n, ie_b, ie_b1, ie_m, ie_mm, it_m, it_m0, il_m0, bI_rZ, Option.bind_some, bd2_some, Nat.add_zero, Nat.zero_add, if_true, if_false, Bool.false_eq_true, eq_self, hI_R, hJ_R, ng_t, ng_e, h6, e12, e16, r4, h46, e12', r']); try (unfold u_X2_readFact_c2; simp (disch := first | assumption | omega | decide | ((repeat first | apply lyI | apply lyJ | apply lywI | apply lywJ | apply csI | apply csJ | apply cswI | apply cswJ); assumption)) only [SR, SX, SC, LI, ↓li_m1, nI_add, pk_mul, nn_sub, nn_m1, nn_div, nn_rem, nn_nz, nn_mod, nJ_l, lN_add, lN_mul, nn_tb1, nI_bt, nn_and, nn_or, nn_xor, nn_shr, nn_1shl, nn_31, il_p, il_n, it_p, it_n, ie_p, ie_n, ie_b, ie_b1, ie_m, ie_mm, it_m, it_m0, il_m0, bI_rZ, Option.bind_some, bd2_some, Nat.add_zero, Nat.zero_add, if_true, if_false, Bool.false_eq_true, eq_self, hI_R, hJ_R, ng_t, ng_e, h6, e12, e16, r4, h46, e12', r']); try (unfold u_X2_readFact_c1; simp (disch := first | assumption | omega | decide | ((repeat first | apply lyI | apply lyJ | apply lywI | apply lywJ | apply csI | apply csJ | apply cswI | apply cswJ); assumption)) only [SR, SX, SC, LI, ↓li_m1, nI_add, pk_mul, nn_sub, nn_m1, nn_div, nn_rem, nn_nz, nn_mod, nJ_l, lN_add, lN_mul, nn_tb1, nI_bt, nn_and, nn_or, nn_xor, nn_shr, nn_1shl, nn_31, il_p, il_n, it_p, it_n, ie_p, ie_n, ie_b, ie_b1, ie_m, ie_mm, it_m, it_m0, il_m0, bI_rZ, Option.bind_some, bd2_some, Nat.add_zero, Nat.zero_add, if_true, if_false, Bool.false_eq_true, eq_self, hI_R, hJ_R, ng_t, ng_e, h6, e12, e16, r4, h46, e12', r']))
  | true =>
    rw [if_neg (by decide)]
    obtain ⟨h5, r5, f5, lc5, nc5⟩ := u1 hb
    have r5' : f_X2_takeNewName h4 42 (nI 0) (nI (A 0)) = some (nI 1, h5) := r5
    have d5 := dcm_nm (dc_m d4) f5 lc5 nc5
    have l5 := lc5.1
    rw [show i + 1 + 1 = i + 2 from rfl] at d5 lc5
    rcases x_take (w := 9) lc5 (by decide) (by decide) with ⟨t6, h7, r7, f7, lc7⟩ | ⟨t6, h7, r7, f7, l7⟩
    · rw [if_neg (fun e => e t6)]
      have d7 := dcm_4 d5 f7 lc7
      have l7 := lc7.1
      have s7 := d7.2.2.1
      have h76 := d7.2.2.2.1
      have q12 : h7.2.1 c 12 = nI (A 0) := d7.2.2.2.2.2.1.1.1
      have q13 : h7.2.1 c 13 = nI (A 1) := d7.2.2.2.2.2.1.1.2.1
      let h8 := hI h7 (c + 5) (A 0) (nI (A 1))
      have f8 : FR h7 h8 [c + 5] [] [] [] := FR.hI (by simp) (by omega) (by omega)
      have lc8 := lc_fr f8 (by intro y hy; simp at hy; omega) (by simp) lc7
      have d8 : DCf h0 h8 c T n m (i + 3) A A (upV V (nbN 0 + cA A 0) (wdI T n (i + 1))) Bv Q := by
        obtain ⟨y1, y2, y3, y4, y5, y6, y7, y8⟩ := d7
        have eI : ∀ j, j < 16 → j ≠ 5 → h8.2.1 (c + j) = h7.2.1 (c + j) := fun j hj j5 => f8.I _ (by simp <;> omega) (by omega) (by omega)
        have eI0 := eI 0 (by decide) (by decide)
        rw [Nat.add_zero] at eI0
        refine ⟨⟨y1.tr (f8.mono (by intro x hx; unfold LCc; simp at hx ⊢; omega) (by simp) (by simp) (by simp)), lc8, y3, y4, nc_fr f8 y3 (by simp) (by simp) (by simp) (by simp) y5, ?_, ?_, ?_⟩, rI_eq⟩
        · obtain ⟨g1, gf, gv, gq, gw⟩ := y6
          unfold DCa
          rw [eI0, eI 7 (by decide) (by decide), eI 8 (by decide) (by decide), eI 11 (by decide) (by decide), eI 12 (by decide) (by decide), eI 13 (by decide) (by decide), eI 14 (by decide) (by decide)]
          refine ⟨g1, fun f hf => ?_, gv, gq, gw⟩
          show (hI h7 (c + 5) (A 0) (nI (A 1))).2.1 (c + 5) f = _ ∧ (hI h7 (c + 5) (A 0) (nI (A 1))).2.1 (c + 5) (f + 1) = _
          refine ⟨by rw [rI_nk (by omega)]; exact (gf f hf).1, ?_⟩
          by_cases e : f + 1 = A 0
          · rw [e, rI_eq, sq.2.2 f e]
          · rw [rI_nk e]
            exact (gf f hf).2
        · rw [f8.I 48 (by simp <;> omega) (by decide) (by decide)]
          exact y7
        · rw [f8.I 42 (by simp <;> omega) (by decide) (by decide)]
          rcases y8 with y8 | y8
          · exact Or.inl y8
          · exact absurd y8.1 (by omega)
      obtain ⟨k1, k2⟩ := nw_6 hb
      have nv0 : NV (upC (cA A) 0) (upV V (nbN 0 + cA A 0) (wdI T n (i + 1))) := (nv_up nv (wd_vd k1) (s := 0) (by decide) (show A 0 < 4 by omega) k2).1
      have lp := x_fL (h0 := h0) (c := c) (T := T) (n := n) (m := m) (Bv := Bv) (Q := Q) (by omega) (by omega) z3 7 0 (i + 3) wN h8 A _ rfl (by decide) (by rw [wN_e]; omega) fx_0 nv0 d8
      have l8 : LAY h8 := l7
      have e : ∀ z, f_X2_readFact_l101 42 (nI 0) (hI h7 (c + 5) (A 0) (nI (A 1))) = some z → f_X2_readFact h 42 = (match z with | .inl h29 => some ((0 : Int32), h29) | .inr h30 => f_X2_readFact_j138 h30 42) := fun z hz => by
        rw [u_X2_readFact_e]; simp (disch := first | assumption | omega | decide | ((repeat first | apply lyI | apply lyJ | apply lywI | apply lywJ | apply csI | apply csJ | apply cswI | apply cswJ); assumption)) only [SR, SX, SC, LI, ↓li_m1, nI_add, pk_mul, nn_sub, nn_m1, nn_div, nn_rem, nn_nz, nn_mod, nJ_l, lN_add, lN_mul, nn_tb1, nI_bt, nn_and, nn_or, nn_xor, nn_shr, nn_1shl, nn_31, il_p, il_n, it_p, it_n, ie_p, ie_n, ie_b, ie_b1, ie_m, ie_mm, it_m, it_m0, il_m0, bI_rZ, Option.bind_some, bd2_some, Nat.add_zero, Nat.zero_add, if_true, if_false, Bool.false_eq_true, eq_self, hI_R, hJ_R, ng_t, ng_e, h6, e12, e16, r4, h46, e12', r5', r7, h76, q12, q13, hz]; try (unfold u_X2_readFact_c3; simp (disch := first | assumption | omega | decide | ((repeat first | apply lyI | apply lyJ | apply lywI | apply lywJ | apply csI | apply csJ | apply cswI | apply cswJ); assumption)) only [SR, SX, SC, LI, ↓li_m1, nI_add, pk_mul, nn_sub, nn_m1, nn_div, nn_rem, nn_nz, nn_mod, nJ_l, lN_add, lN_mul, nn_tb1, nI_bt, nn_and, nn_or, nn_xor, nn_shr, nn_1shl, nn_31, il_p, il_n, it_p, it_n, ie_p, ie_n, ie_b, ie_b1, ie_m, ie_mm, it_m, it_m0, il_m0, bI_rZ, Option.bind_some, bd2_some, Nat.add_zero, Nat.zero_add, if_true, if_false, Bool.false_eq_true, eq_self, hI_R, hJ_R, ng_t, ng_e, h6, e12, e16, r4, h46, e12', r5', r7, h76, q12, q13, hz]); try (unfold u_X2_readFact_c2; simp (disch := first | assumption | omega | decide | ((repeat first | apply lyI | apply lyJ | apply lywI | apply lywJ | apply csI | apply csJ | apply cswI | apply cswJ); assumption)) only [SR, SX, SC, LI, ↓li_m1, nI_add, pk_mul, nn_sub, nn_m1, nn_div, nn_rem, nn_nz, nn_mod, nJ_l, lN_add, lN_mul, nn_tb1, nI_bt, nn_and, nn_or, nn_xor, nn_shr, nn_1shl, nn_31, il_p, il_n, it_p, it_n, ie_p, ie_n, ie_b, ie_b1, ie_m, ie_mm, it_m, it_m0, il_m0, bI_rZ, Option.bind_some, bd2_some, Nat.add_zero, Nat.zero_add, if_true, if_false, Bool.false_eq_true, eq_self, hI_R, hJ_R, ng_t, ng_e, h6, e12, e16, r4, h46, e12', r5', r7, h76, q12, q13, hz]); try (unfold u_X2_readFact_c1; simp (disch := first | assumption | omega | decide | ((repeat first | apply lyI | apply lyJ | apply lywI | apply lywJ | apply csI | apply csJ | apply cswI | apply cswJ); assumption)) only [SR, SX, SC, LI, ↓li_m1, nI_add, pk_mul, nn_sub, nn_m1, nn_div, nn_rem, nn_nz, nn_mod, nJ_l, lN_add, lN_mul, nn_tb1, nI_bt, nn_and, nn_or, nn_xor, nn_shr, nn_1shl, nn_31, il_p, il_n, it_p, it_n, ie_p, ie_n, ie_b, ie_b1, ie_m, ie_mm, it_m, it_m0, il_m0, bI_rZ, Option.bind_some, bd2_some, Nat.add_zero, Nat.zero_add, if_true, if_false, Bool.false_eq_true, eq_self, hI_R, hJ_R, ng_t, ng_e, h6, e12, e16, r4, h46, e12', r5', r7, h76, q12, q13, hz])
        cases z <;> rfl
      cases hf : fL T n (A 0) 7 0 (i + 3) A (upV V (nbN 0 + cA A 0) (wdI T n (i + 1))) with
      | inl q =>
        obtain ⟨a, b⟩ := q
        rw [hf] at lp
        obtain ⟨y1, y2, h', y3, y4, y5⟩ := lp
        exact ⟨y1, y2, h', e _ y3, y4, y5⟩
      | inr q =>
        obtain ⟨j, x, A', V'⟩ := q
        rw [hf] at lp
        obtain ⟨h', y3, y4⟩ := lp
        obtain ⟨o1, o2, o3, o4, o5⟩ := fl_ok (by omega) 7 0 (i + 3) A _ rfl fx_0 nv0 j x A' V' hf
        have := x_close y4 o3 (by omega) (by omega) z3 o2 b2 o5 (fun h8 => dv_f dv (by omega) z3 o3 o4 (by omega) o2 (by omega))
        have ee : f_X2_readFact h 42 = f_X2_readFact_j138 h' 42 := e _ y3
        rw [ee]
        exact this
    · rw [if_pos t6]
      obtain ⟨k1, k2⟩ := fk_b (T := T) (n := n) (i := i + 2) (k := 2) (by decide) (by decide)
      exact dcm_fl d5 k1 k2 f7 l7 (by rw [u_X2_readFact_e]; simp (disch := first | assumption | omega | decide | ((repeat first | apply lyI | apply lyJ | apply lywI | apply lywJ | apply csI | apply csJ | apply cswI | apply cswJ); assumption)) only [SR, SX, SC, LI, ↓li_m1, nI_add, pk_mul, nn_sub, nn_m1, nn_div, nn_rem, nn_nz, nn_mod, nJ_l, lN_add, lN_mul, nn_tb1, nI_bt, nn_and, nn_or, nn_xor, nn_shr, nn_1shl, nn_31, il_p, il_n, it_p, it_n, ie_p, ie_n, ie_b, ie_b1, ie_m, ie_mm, it_m, it_m0, il_m0, bI_rZ, Option.bind_some, bd2_some, Nat.add_zero, Nat.zero_add, if_true, if_false, Bool.false_eq_true, eq_self, hI_R, hJ_R, ng_t, ng_e, h6, e12, e16, r4, h46, e12', r5', r7]; try (unfold u_X2_readFact_c3; simp (disch := first | assumption | omega | decide | ((repeat first | apply lyI | apply lyJ | apply lywI | apply lywJ | apply csI | apply csJ | apply cswI | apply cswJ); assumption)) only [SR, SX, SC, LI, ↓li_m1, nI_add, pk_mul, nn_sub, nn_m1, nn_div, nn_rem, nn_nz, nn_mod, nJ_l, lN_add, lN_mul, nn_tb1, nI_bt, nn_and, nn_or, nn_xor, nn_shr, nn_1shl, nn_31, il_p, il_n, it_p, it_n, ie_p, ie_n, ie_b, ie_b1, ie_m, ie_mm, it_m, it_m0, il_m0, bI_rZ, Option.bind_some, bd2_some, Nat.add_zero, Nat.zero_add, if_true, if_false, Bool.false_eq_true, eq_self, hI_R, hJ_R, ng_t, ng_e, h6, e12, e16, r4, h46, e12', r5', r7]); try (unfold u_X2_readFact_c2; simp (disch := first | assumption | omega | decide | ((repeat first | apply lyI | apply lyJ | apply lywI | apply lywJ | apply csI | apply csJ | apply cswI | apply cswJ); assumption)) only [SR, SX, SC, LI, ↓li_m1, nI_add, pk_mul, nn_sub, nn_m1, nn_div, nn_rem, nn_nz, nn_mod, nJ_l, lN_add, lN_mul, nn_tb1, nI_bt, nn_and, nn_or, nn_xor, nn_shr, nn_1shl, nn_31, il_p, il_n, it_p, it_n, ie_p, ie_n, ie_b, ie_b1, ie_m, ie_mm, it_m, it_m0, il_m0, bI_rZ, Option.bind_some, bd2_some, Nat.add_zero, Nat.zero_add, if_true, if_false, Bool.false_eq_true, eq_self, hI_R, hJ_R, ng_t, ng_e, h6, e12, e16, r4, h46, e12', r5', r7]); try (unfold u_X2_readFact_c1; simp (disch := first | assumption | omega | decide | ((repeat first | apply lyI | apply lyJ | apply lywI | apply lywJ | apply csI | apply csJ | apply cswI | apply cswJ); assumption)) only [SR, SX, SC, LI, ↓li_m1, nI_add, pk_mul, nn_sub, nn_m1, nn_div, nn_rem, nn_nz, nn_mod, nJ_l, lN_add, lN_mul, nn_tb1, nI_bt, nn_and, nn_or, nn_xor, nn_shr, nn_1shl, nn_31, il_p, il_n, it_p, it_n, ie_p, ie_n, ie_b, ie_b1, ie_m, ie_mm, it_m, it_m0, il_m0, bI_rZ, Option.bind_some, bd2_some, Nat.add_zero, Nat.zero_add, if_true, if_false, Bool.false_eq_true, eq_self, hI_R, hJ_R, ng_t, ng_e, h6, e12, e16, r4, h46, e12', r5', r7]))
