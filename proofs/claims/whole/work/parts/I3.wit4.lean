/-! ===== cases: the class reads a witness, whole ===== -/
/-- the last of it -/
theorem dca_fin {g h : aH} {c : Nat} {A : Nat → Nat} {K : Nat} {W : Nat → Nat} {H : Nat} (h4 : A 4 < 4) (b0 : A 0 ≤ 4) (b1 : A 1 ≤ 24) (b3 : A 3 ≤ 12) (ec : ∀ k, h.2.1 c k = if k = 17 then nI (A 4 + 1) else if k = 18 then nI (pk4 (mkN A W)) else g.2.1 c k) (e : ∀ j, j ∈ [5, 7, 8, 11, 12, 13] → h.2.1 (c + j) = g.2.1 (c + j)) (e14 : ∀ x, h.2.1 (c + 14) x = if x = A 4 then nI H else g.2.1 (c + 14) x) (d : DCa g c (wP A K W 0)) : DCa h c (wA A K W H) := by
  obtain ⟨⟨g12, g13, g14, g16, g17, g18⟩, gf, gv, gq, gw⟩ := d
  have n : ∀ y, y < 76 → wP A K W 0 y = A y := fun y hy => wp_n (by omega)
  have w : ∀ y, y < 76 → y ≠ 4 → wA A K W H y = A y := fun y hy h4 => wa_n h4 (by omega)
  rw [n 0 (by decide)] at g12 gf
  rw [n 1 (by decide)] at g13 gv
  rw [n 2 (by decide)] at g14
  rw [n 3 (by decide)] at g16 gq
  have my : pk4 (myN (wA A K W H)) = pk4 (mkN A W) := by
    have e : ∀ u, u < 4 → myN (wA A K W H) u = mkN A W u := fun u hu => by
      unfold mkN
      by_cases eu : u = A 4
      · rw [if_pos eu]
        unfold myN mayN
        rw [wa_4, if_pos (by omega), eu]
        exact orN_congr (fun k hk => by rw [wa_w hk])
      · rw [if_neg eu]
        unfold myN mayN
        rw [wa_4]
        by_cases hu4 : u < A 4
        · rw [if_pos (by omega), if_pos hu4]
          exact orN_congr (fun k hk => by rw [wa_n (by omega) (by omega)])
        · rw [if_neg (by omega), if_neg hu4]
    unfold pk4
    rw [e 0 (by decide), e 1 (by decide), e 2 (by decide), e 3 (by decide)]
  refine ⟨⟨?_, ?_, ?_, ?_, ?_, ?_⟩, fun f hf => ?_, fun v hv => ?_, fun q hq => ?_, fun v hv => ?_⟩
  · rw [ec, if_neg (by decide), if_neg (by decide), w 0 (by decide) (by decide)]; exact g12
  · rw [ec, if_neg (by decide), if_neg (by decide), w 1 (by decide) (by decide)]; exact g13
  · rw [ec, if_neg (by decide), if_neg (by decide), w 2 (by decide) (by decide)]; exact g14
  · rw [ec, if_neg (by decide), if_neg (by decide), w 3 (by decide) (by decide)]; exact g16
  · rw [ec, if_pos rfl, wa_4]
  · rw [ec, if_neg (by decide), if_pos rfl, my]
  · rw [w 0 (by decide) (by decide)] at hf
    have q := gf f hf
    rw [n _ (by omega), n _ (by omega)] at q
    rw [e 5 (by decide), w _ (by omega) (by omega), w _ (by omega) (by omega)]
    exact q
  · rw [w 1 (by decide) (by decide)] at hv
    have q := gv v hv
    rw [n _ (by omega), n _ (by omega)] at q
    rw [e 7 (by decide), e 8 (by decide), w _ (by omega) (by omega), w _ (by omega) (by omega)]
    exact q
  · rw [w 3 (by decide) (by decide)] at hq
    have q' := gq q hq
    rw [n _ (by omega)] at q'
    rw [e 11 (by decide), w _ (by omega) (by omega)]
    exact q'
  · obtain ⟨g1, g2, g3⟩ := gw v hv
    rw [e 12 (by decide), e 13 (by decide), e14]
    by_cases ev : v = A 4
    · subst ev
      rw [if_pos rfl, wa_k.1, wa_k.2]
      rw [wp_k.1] at g2
      refine ⟨fun k hk => ?_, g2, rfl⟩
      have q := g1 k hk
      rw [wp_w hk] at q
      rw [wa_w hk]
      exact q
    · rw [if_neg ev, wa_n (by omega) (by omega), wa_n (by omega) (by omega)]
      rw [wp_n (by omega)] at g2 g3
      refine ⟨fun k hk => ?_, g2, g3⟩
      have q := g1 k hk
      rw [wp_n (by omega)] at q
      rw [wa_n (by omega) (by omega)]
      exact q
/-- witnesses and sign -/
theorem x_w9 {h0 g h : aH} {c : Nat} {T : Nat → Nat} {n m j j' : Nat} {A : Nat → Nat} {V : Nat → List Nat} {Bv : Nat → Nat} {Q : Nat → Nat → Bool} {K : Nat} {W : Nat → Nat} {H : Nat} (h4 : A 4 < 4) (wf : WF A) (dg : DCk h0 g c T n m j' A (wP A K W 0) (upC (cA A) 3) V Bv Q) (f : FR g h [4, c, c + 14] [4] [] []) (lc : LC h T n m j) (t3 : tcI T n j = 3) (ec : ∀ k, h.2.1 c k = if k = 18 then nI (pk4 (mkN A W)) else g.2.1 c k) (e14 : ∀ x, h.2.1 (c + 14) x = if x = A 4 then nI H else g.2.1 (c + 14) x) (dv : DV (wA A K W H) V Bv Q) : OCc h0 c T n m (f_X2_readWitness_j142 h 42) (.inr (j + 1, wA A K W H, V, Bv, Q)) := by
  obtain ⟨d1, d2, hs, h6, nc, dca, dn, dw⟩ := id dg
  obtain ⟨b0, b1, b2l, b2, b3, b4⟩ := wf_b wf
  have c0 := hs.1
  have hl := lc.1
  have s1 := cs_fr f hs
  have h61 : h.2.2.2 42 6 = some c := by rw [f.2.1]; exact h6
  have g17 : h.2.1 c 17 = nI (A 4) := by
    rw [ec, if_neg (by decide)]
    have := dca.1.2.2.2.2.1
    rw [show wP A K W 0 4 = A 4 from wp_n (by omega)] at this
    exact this
  let h1 := hI h c 17 (nI (A 4 + 1))
  have f1 : FR h h1 [c] [] [] [] := FR.hI (by simp) (by omega) (by omega)
  have lc1 := lc_fr f1 (by intro y hy; simp at hy; omega) (by simp) lc
  have l1 : LAY h1 := hl
  have e12 : h1.2.1 4 12 = nI 0 := lc1.2.2.1.2.2.2.1
  have e12' : (hI h c 17 (nI (A 4 + 1))).2.1 4 12 = nI 0 := e12
  rcases x_take (w := 3) lc1 (by decide) (by decide) with ⟨t, h2, r, f2, l2⟩ | ⟨t, -⟩
  · have r' : f_X4_take (hI h c 17 (nI (A 4 + 1))) 4 (nI 3) = some (nI 1, h2) := r
    have fz : FR g h2 [4, c, c + 14] [4] [] [] := (f.tr (f1.mono (by simp) (by simp) (by simp) (by simp))).tr (f2.mono (by simp) (by simp) (by simp) (by simp))
    have ec2 : ∀ k, h2.2.1 c k = if k = 17 then nI (A 4 + 1) else if k = 18 then nI (pk4 (mkN A W)) else g.2.1 c k := fun k => by
      rw [f2.I c (by simp <;> omega) (by omega) (by omega)]
      show (hI h c 17 (nI (A 4 + 1))).2.1 c k = _
      by_cases e : k = 17
      · rw [if_pos e, e, rI_eq]
      · rw [if_neg e, rI_nk e, ec]
    have ag := wa_ag (A := A) (K := K) (W := W) (H := H)
    have c3 : wA A K W H 3 = A 3 := wa_n (by decide) (by omega)
    refine ⟨dv, h2, by simp (disch := first | assumption | omega | decide | ((repeat first | apply lyI | apply lyJ | apply lywI | apply lywJ | apply csI | apply csJ | apply cswI | apply cswJ); assumption)) only [f_X2_readWitness_j142, SR, SX, SC, LI, ↓li_m1, nI_add, pk_mul, nn_sub, nn_m1, nn_div, nn_rem, nn_nz, nn_mod, nJ_l, lN_add, lN_mul, nn_tb1, nI_bt, nn_and, nn_or, nn_xor, nn_shr, nn_1shl, nn_31, il_p, il_n, it_p, it_n, ie_p, ie_n, ie_b, ie_b1, ie_m, ie_mm, it_m, it_m0, il_m0, bI_rZ, Option.bind_some, bd2_some, Nat.add_zero, Nat.zero_add, if_true, if_false, Bool.false_eq_true, eq_self, hI_R, hJ_R, ng_t, ng_e, h61, g17, e12', r'], d1.tr (fz.mono (by intro x hx; unfold LCc; simp at hx ⊢; omega) (by intro x hx; unfold LJc; simp at hx ⊢; omega) (by simp) (by simp)), l2, cs_fr fz hs, by rw [fz.2.1]; exact h6, ncl_cs (fun s hs => wa_cs hs) (nc_fr fz hs (by simp <;> omega) (by simp <;> omega) (by simp <;> omega) (by simp <;> omega) nc), ?_, ?_, ?_⟩
    · refine dca_fin h4 b0 b1 b3 ec2 (fun j hj => fz.I _ (by simp at hj ⊢; omega) (by simp at hj; omega) (by simp at hj; omega)) (fun x => ?_) dca
      rw [f2.I (c + 14) (by simp <;> omega) (by omega) (by omega), f1.I (c + 14) (by simp) (by omega) (by omega)]
      exact e14 x
    · rw [fz.I 48 (by simp <;> omega) (by decide) (by decide)]
      exact dn
    · rw [fz.I 42 (by simp <;> omega) (by decide) (by decide), c3]
      rcases dw with dw | ⟨y1, y2, w1, w2, w3, w4, w5⟩
      · exact Or.inl dw
      · refine Or.inr ⟨y1, y2, ag_dw ag wf c3 ⟨?_, ?_, ?_, ?_, ?_⟩⟩
        · rw [ec2, if_neg (by decide), if_neg (by decide)]
          exact w1
        · rw [fz.I (c + 6) (by simp <;> omega) (by omega) (by omega)]
          exact w2
        · rw [fz.I (c + 9) (by simp <;> omega) (by omega) (by omega), fz.I (c + 10) (by simp <;> omega) (by omega) (by omega)]
          exact w3
        · rw [fz.J 50 (by simp)]
          exact w4
        · rw [fz.J 49 (by simp)]
          exact w5
  · exact absurd t3 t
theorem x_w76 {h0 h : aH} {c : Nat} {T : Nat → Nat} {n m j : Nat} {A : Nat → Nat} {V V0 : Nat → List Nat} {Bv : Nat → Nat} {Q : Nat → Nat → Bool} {K : Nat} (h4 : A 4 < 4) (dv : DV A V0 Bv Q) (k16 : K < 16) (nv : NV (upC (cA A) 3) V) (d : DCk h0 h c T n m j A (wP A K W00 0) (upC (cA A) 3) V Bv Q) : OCc h0 c T n m (f_X2_readWitness_j76 h 42 (nI (A 4))) (wO2 T n j A V Bv Q K) := by
  obtain ⟨d1, lc, hs, h6, nc, dca, dn, dw⟩ := id d
  have wf := dv.1
  obtain ⟨b0, b1, b2l, b2, b3, b4⟩ := wf_b wf
  have hl := lc.1
  have e12 : h.2.1 4 12 = nI 0 := lc.2.2.1.2.2.2.1
  obtain ⟨hm, ht⟩ := lx_t lc
  have hj := lc.2.2.2
  unfold wO2
  rcases x_take (w := 16) lc (by decide) (by decide) with ⟨t, h1, r, f, lc1⟩ | ⟨t, h1, r, f, l1⟩
  · rw [if_neg (fun z => z t)]
    have dk := dck_4 d f lc1
    have l1 := lc1.1
    have ok := x_kinds h4 b0 b1 b3 dk
    have j1 := ht j hj (by omega)
    cases hk : kN T n 901 0 (j + 1) W00 0 with
    | inl q =>
      obtain ⟨a, b⟩ := q
      rw [show kO T n (j + 1) = .inl (a, b) by unfold kO; rw [hk]] at ok
      obtain ⟨y1, y2, h', y3, y4, y5⟩ := ok
      exact ⟨y1, y2, h', by rw [u_X2_readWitness_j76_e]; simp (disch := first | assumption | omega | decide | ((repeat first | apply lyI | apply lyJ | apply lywI | apply lywJ | apply csI | apply csJ | apply cswI | apply cswJ); assumption)) only [SR, SX, LI, ↓li_m1, nI_add, pk_mul, nn_sub, nn_m1, nn_div, nn_rem, nn_nz, nn_mod, nJ_l, lN_add, lN_mul, nn_tb1, nI_bt, nn_and, nn_or, nn_xor, nn_shr, nn_1shl, nn_31, il_p, il_n, it_p, it_n, ie_p, ie_n, ie_b, ie_b1, ie_m, ie_mm, it_m, it_m0, il_m0, bI_rZ, Option.bind_some, bd2_some, Nat.add_zero, Nat.zero_add, if_true, if_false, Bool.false_eq_true, eq_self, hI_R, hJ_R, ng_t, ng_e, e12, r, y3]; try (unfold u_X2_readWitness_j76_c2; simp (disch := first | assumption | omega | decide | ((repeat first | apply lyI | apply lyJ | apply lywI | apply lywJ | apply csI | apply csJ | apply cswI | apply cswJ); assumption)) only [SR, SX, LI, ↓li_m1, nI_add, pk_mul, nn_sub, nn_m1, nn_div, nn_rem, nn_nz, nn_mod, nJ_l, lN_add, lN_mul, nn_tb1, nI_bt, nn_and, nn_or, nn_xor, nn_shr, nn_1shl, nn_31, il_p, il_n, it_p, it_n, ie_p, ie_n, ie_b, ie_b1, ie_m, ie_mm, it_m, it_m0, il_m0, bI_rZ, Option.bind_some, bd2_some, Nat.add_zero, Nat.zero_add, if_true, if_false, Bool.false_eq_true, eq_self, hI_R, hJ_R, ng_t, ng_e, e12, r, y3]); try (unfold u_X2_readWitness_j76_c1; simp (disch := first | assumption | omega | decide | ((repeat first | apply lyI | apply lyJ | apply lywI | apply lywJ | apply csI | apply csJ | apply cswI | apply cswJ); assumption)) only [SR, SX, LI, ↓li_m1, nI_add, pk_mul, nn_sub, nn_m1, nn_div, nn_rem, nn_nz, nn_mod, nJ_l, lN_add, lN_mul, nn_tb1, nI_bt, nn_and, nn_or, nn_xor, nn_shr, nn_1shl, nn_31, il_p, il_n, it_p, it_n, ie_p, ie_n, ie_b, ie_b1, ie_m, ie_mm, it_m, it_m0, il_m0, bI_rZ, Option.bind_some, bd2_some, Nat.add_zero, Nat.zero_add, if_true, if_false, Bool.false_eq_true, eq_self, hI_R, hJ_R, ng_t, ng_e, e12, r, y3]), y4, y5⟩
    | inr q =>
      obtain ⟨j', W, s⟩ := q
      have ko : kO T n (j + 1) = (if tcI T n j' ≠ 17 ∧ tcI T n j' ≠ 3 then .inl (fkN T n j' 2, frI T n j') else if s ≠ 16 then .inl (8, frI T n j') else .inr (j', W)) := by
        unfold kO
        rw [hk]
      obtain ⟨p1, p2, p3, p4⟩ := kN_ok hm ht 901 0 (j + 1) W00 0 (by omega) (by omega) ⟨fun _ => Nat.zero_le _, fun _ _ => rfl, rfl⟩ j' W s hk
      show OCc h0 c T n m _ (if tcI T n j' ≠ 17 ∧ tcI T n j' ≠ 3 then .inl (fkN T n j' 2, frI T n j') else if s ≠ 16 then .inl (8, frI T n j') else if tcI T n j' = 17 then (match tN T n (upC (cA A) 3) V 2 3 901 0 (j' + 1) 0 with
        | .inl e => .inl e
        | .inr (j2, H) => .inr (j2 + 1, wA A K W H, V, Bv, Q)) else .inr (j' + 1, wA A K W 0, V, Bv, Q))
      by_cases h1' : tcI T n j' ≠ 17 ∧ tcI T n j' ≠ 3
      · rw [if_pos h1'] at ko ⊢
        rw [ko] at ok
        obtain ⟨y1, y2, h', y3, y4, y5⟩ := ok
        exact ⟨y1, y2, h', by rw [u_X2_readWitness_j76_e]; simp (disch := first | assumption | omega | decide | ((repeat first | apply lyI | apply lyJ | apply lywI | apply lywJ | apply csI | apply csJ | apply cswI | apply cswJ); assumption)) only [SR, SX, LI, ↓li_m1, nI_add, pk_mul, nn_sub, nn_m1, nn_div, nn_rem, nn_nz, nn_mod, nJ_l, lN_add, lN_mul, nn_tb1, nI_bt, nn_and, nn_or, nn_xor, nn_shr, nn_1shl, nn_31, il_p, il_n, it_p, it_n, ie_p, ie_n, ie_b, ie_b1, ie_m, ie_mm, it_m, it_m0, il_m0, bI_rZ, Option.bind_some, bd2_some, Nat.add_zero, Nat.zero_add, if_true, if_false, Bool.false_eq_true, eq_self, hI_R, hJ_R, ng_t, ng_e, e12, r, y3]; try (unfold u_X2_readWitness_j76_c2; simp (disch := first | assumption | omega | decide | ((repeat first | apply lyI | apply lyJ | apply lywI | apply lywJ | apply csI | apply csJ | apply cswI | apply cswJ); assumption)) only [SR, SX, LI, ↓li_m1, nI_add, pk_mul, nn_sub, nn_m1, nn_div, nn_rem, nn_nz, nn_mod, nJ_l, lN_add, lN_mul, nn_tb1, nI_bt, nn_and, nn_or, nn_xor, nn_shr, nn_1shl, nn_31, il_p, il_n, it_p, it_n, ie_p, ie_n, ie_b, ie_b1, ie_m, ie_mm, it_m, it_m0, il_m0, bI_rZ, Option.bind_some, bd2_some, Nat.add_zero, Nat.zero_add, if_true, if_false, Bool.false_eq_true, eq_self, hI_R, hJ_R, ng_t, ng_e, e12, r, y3]); try (unfold u_X2_readWitness_j76_c1; simp (disch := first | assumption | omega | decide | ((repeat first | apply lyI | apply lyJ | apply lywI | apply lywJ | apply csI | apply csJ | apply cswI | apply cswJ); assumption)) only [SR, SX, LI, ↓li_m1, nI_add, pk_mul, nn_sub, nn_m1, nn_div, nn_rem, nn_nz, nn_mod, nJ_l, lN_add, lN_mul, nn_tb1, nI_bt, nn_and, nn_or, nn_xor, nn_shr, nn_1shl, nn_31, il_p, il_n, it_p, it_n, ie_p, ie_n, ie_b, ie_b1, ie_m, ie_mm, it_m, it_m0, il_m0, bI_rZ, Option.bind_some, bd2_some, Nat.add_zero, Nat.zero_add, if_true, if_false, Bool.false_eq_true, eq_self, hI_R, hJ_R, ng_t, ng_e, e12, r, y3]), y4, y5⟩
      · rw [if_neg h1'] at ko ⊢
        by_cases h16 : s ≠ 16
        · rw [if_pos h16] at ko ⊢
          rw [ko] at ok
          obtain ⟨y1, y2, h', y3, y4, y5⟩ := ok
          exact ⟨y1, y2, h', by rw [u_X2_readWitness_j76_e]; simp (disch := first | assumption | omega | decide | ((repeat first | apply lyI | apply lyJ | apply lywI | apply lywJ | apply csI | apply csJ | apply cswI | apply cswJ); assumption)) only [SR, SX, LI, ↓li_m1, nI_add, pk_mul, nn_sub, nn_m1, nn_div, nn_rem, nn_nz, nn_mod, nJ_l, lN_add, lN_mul, nn_tb1, nI_bt, nn_and, nn_or, nn_xor, nn_shr, nn_1shl, nn_31, il_p, il_n, it_p, it_n, ie_p, ie_n, ie_b, ie_b1, ie_m, ie_mm, it_m, it_m0, il_m0, bI_rZ, Option.bind_some, bd2_some, Nat.add_zero, Nat.zero_add, if_true, if_false, Bool.false_eq_true, eq_self, hI_R, hJ_R, ng_t, ng_e, e12, r, y3]; try (unfold u_X2_readWitness_j76_c2; simp (disch := first | assumption | omega | decide | ((repeat first | apply lyI | apply lyJ | apply lywI | apply lywJ | apply csI | apply csJ | apply cswI | apply cswJ); assumption)) only [SR, SX, LI, ↓li_m1, nI_add, pk_mul, nn_sub, nn_m1, nn_div, nn_rem, nn_nz, nn_mod, nJ_l, lN_add, lN_mul, nn_tb1, nI_bt, nn_and, nn_or, nn_xor, nn_shr, nn_1shl, nn_31, il_p, il_n, it_p, it_n, ie_p, ie_n, ie_b, ie_b1, ie_m, ie_mm, it_m, it_m0, il_m0, bI_rZ, Option.bind_some, bd2_some, Nat.add_zero, Nat.zero_add, if_true, if_false, Bool.false_eq_true, eq_self, hI_R, hJ_R, ng_t, ng_e, e12, r, y3]); try (unfold u_X2_readWitness_j76_c1; simp (disch := first | assumption | omega | decide | ((repeat first | apply lyI | apply lyJ | apply lywI | apply lywJ | apply csI | apply csJ | apply cswI | apply cswJ); assumption)) only [SR, SX, LI, ↓li_m1, nI_add, pk_mul, nn_sub, nn_m1, nn_div, nn_rem, nn_nz, nn_mod, nJ_l, lN_add, lN_mul, nn_tb1, nI_bt, nn_and, nn_or, nn_xor, nn_shr, nn_1shl, nn_31, il_p, il_n, it_p, it_n, ie_p, ie_n, ie_b, ie_b1, ie_m, ie_mm, it_m, it_m0, il_m0, bI_rZ, Option.bind_some, bd2_some, Nat.add_zero, Nat.zero_add, if_true, if_false, Bool.false_eq_true, eq_self, hI_R, hJ_R, ng_t, ng_e, e12, r, y3]), y4, y5⟩
        · rw [if_neg h16] at ko ⊢
          rw [ko] at ok
          obtain ⟨g, y3, dg⟩ := ok
          have s16 : s = 16 := by omega
          rw [s16] at p4
          obtain ⟨d1', lcg, hsg, h6g, ncg, dcag, -⟩ := id dg
          have c0 := hsg.1
          let g1 := hI g c 18 (nI (pk4 (mkN A W)))
          have fg : FR g g1 [c] [] [] [] := FR.hI (by simp) (by omega) (by omega)
          have lc2 := lc_fr fg (by intro y hy; simp at hy; omega) (by simp) lcg
          have l2 : LAY (hI g c 18 (nI (pk4 (mkN A W)))) := lc2.1
          have s2 : CS (hI g c 18 (nI (pk4 (mkN A W)))) c := hsg
          have h62 : (hI g c 18 (nI (pk4 (mkN A W)))).2.2.2 42 6 = some c := h6g
          have ec : ∀ k, g1.2.1 c k = if k = 18 then nI (pk4 (mkN A W)) else g.2.1 c k := fun k => by
            show (hI g c 18 (nI (pk4 (mkN A W)))).2.1 c k = _
            by_cases e : k = 18
            · rw [if_pos e, e, rI_eq]
            · rw [if_neg e, rI_nk e]
          have z14 : g.2.1 (c + 14) (A 4) = nI 0 := by
            have := (dcag.2.2.2.2 (A 4) h4).2.2
            rw [wp_k.2] at this
            exact this
          have e10 : (hI g c 18 (nI (pk4 (mkN A W)))).2.1 4 10 = nI (tcI T n j') := lc2.2.2.1.2.1
          by_cases t17 : tcI T n j' = 17
          · rw [if_pos t17]
            rw [t17] at e10
            obtain ⟨g2, ad, f2, lc3⟩ := x_adv lc2 (lc_lt lc2 (by omega))
            have ad' : f_X4_advance (hI g c 18 (nI (pk4 (mkN A W)))) 4 = some g2 := ad
            have l3 := lc3.1
            have s3 := cs_fr f2 s2
            have h63 : g2.2.2.2 42 6 = some c := by rw [f2.2.1]; exact h62
            have fg2 : FR g g2 [4, c] [4] [] [] := (fg.mono (by simp) (by simp) (by simp) (by simp)).tr (f2.mono (by simp) (by simp) (by simp) (by simp))
            have nm := x_names (s := 2) (up := 3) (b := 12) (by decide) (show upC (cA A) 3 2 ≤ 12 from b3) (by decide) (by decide) nv lc3 s3 h63 (nc_fr fg2 hsg (by simp <;> omega) (by simp <;> omega) (by simp <;> omega) (by simp <;> omega) ncg)
            cases hn : tN T n (upC (cA A) 3) V 2 3 901 0 (j' + 1) 0 with
            | inl q =>
              obtain ⟨a, b⟩ := q
              rw [hn] at nm
              obtain ⟨y1, y2, h', y4, y5, y6⟩ := nm
              have l4 := y6.1
              have s4 := cs_fr y5 s3
              have h64 : h'.2.2.2 42 6 = some c := by rw [y5.2.1]; exact h63
              have g17 : h'.2.1 c 17 = nI (A 4) := by
                rw [y5.I c (by simp <;> omega) (by omega) (by omega), f2.I c (by simp <;> omega) (by omega) (by omega)]
                show g1.2.1 c 17 = _
                rw [ec, if_neg (by decide)]
                have := dcag.1.2.2.2.2.1
                rw [show wP A K W 0 4 = A 4 from wp_n (by omega)] at this
                exact this
              have fe : FR h' (hI (hI h' (c + 14) (A 4) (nI 0)) c 17 (nI (A 4 + 1))) [c, c + 14] [] [] [] := (FR.hI (by simp) (by omega) (by omega)).tr (FR.hI (by simp) (by omega) (by omega))
              have fl := fl_fr fe (by simp <;> omega) y6
              have g17' : (hI h' (c + 14) (A 4) (nI 0)).2.1 c 17 = nI (A 4) := by
                rw [rI_ne (by omega)]
                exact g17
              have ez : ¬ nI a = nI 0 := d_ne (by omega) (by decide) y1
              have e12x := fl.2.1
              exact ⟨y1, y2, hI (hI h' (c + 14) (A 4) (nI 0)) c 17 (nI (A 4 + 1)), by rw [u_X2_readWitness_j76_e]; simp (disch := first | assumption | omega | decide | ((repeat first | apply lyI | apply lyJ | apply lywI | apply lywJ | apply csI | apply csJ | apply cswI | apply cswJ); assumption)) only [f_X2_readWitness_j142, SR, SX, SC, LI, ↓li_m1, nI_add, pk_mul, nn_sub, nn_m1, nn_div, nn_rem, nn_nz, nn_mod, nJ_l, lN_add, lN_mul, nn_tb1, nI_bt, nn_and, nn_or, nn_xor, nn_shr, nn_1shl, nn_31, il_p, il_n, it_p, it_n, ie_p, ie_n, ie_b, ie_b1, ie_m, ie_mm, it_m, it_m0, il_m0, bI_rZ, Option.bind_some, bd2_some, Nat.add_zero, Nat.zero_add, if_true, if_false, Bool.false_eq_true, eq_self, hI_R, hJ_R, ng_t, ng_e, e12, r, y3, e10, ad', h63, y4, h64, g17', e12x, if_neg ez]; try (unfold u_X2_readWitness_j76_c2; simp (disch := first | assumption | omega | decide | ((repeat first | apply lyI | apply lyJ | apply lywI | apply lywJ | apply csI | apply csJ | apply cswI | apply cswJ); assumption)) only [f_X2_readWitness_j142, SR, SX, SC, LI, ↓li_m1, nI_add, pk_mul, nn_sub, nn_m1, nn_div, nn_rem, nn_nz, nn_mod, nJ_l, lN_add, lN_mul, nn_tb1, nI_bt, nn_and, nn_or, nn_xor, nn_shr, nn_1shl, nn_31, il_p, il_n, it_p, it_n, ie_p, ie_n, ie_b, ie_b1, ie_m, ie_mm, it_m, it_m0, il_m0, bI_rZ, Option.bind_some, bd2_some, Nat.add_zero, Nat.zero_add, if_true, if_false, Bool.false_eq_true, eq_self, hI_R, hJ_R, ng_t, ng_e, e12, r, y3, e10, ad', h63, y4, h64, g17', e12x, if_neg ez]); try (unfold u_X2_readWitness_j76_c1; simp (disch := first | assumption | omega | decide | ((repeat first | apply lyI | apply lyJ | apply lywI | apply lywJ | apply csI | apply csJ | apply cswI | apply cswJ); assumption)) only [f_X2_readWitness_j142, SR, SX, SC, LI, ↓li_m1, nI_add, pk_mul, nn_sub, nn_m1, nn_div, nn_rem, nn_nz, nn_mod, nJ_l, lN_add, lN_mul, nn_tb1, nI_bt, nn_and, nn_or, nn_xor, nn_shr, nn_1shl, nn_31, il_p, il_n, it_p, it_n, ie_p, ie_n, ie_b, ie_b1, ie_m, ie_mm, it_m, it_m0, il_m0, bI_rZ, Option.bind_some, bd2_some, Nat.add_zero, Nat.zero_add, if_true, if_false, Bool.false_eq_true, eq_self, hI_R, hJ_R, ng_t, ng_e, e12, r, y3, e10, ad', h63, y4, h64, g17', e12x, if_neg ez]), d1'.tr ((fg2.mono (by intro x hx; unfold LCc; simp at hx ⊢; omega) (by intro x hx; unfold LJc; simp at hx ⊢; omega) (by simp) (by simp)).tr ((y5.mono lcc_4 ljc_4 (by simp) (by simp)).tr (fe.mono (by intro x hx; unfold LCc; simp at hx ⊢; omega) (by simp) (by simp) (by simp)))), fl⟩
            | inr q =>
              obtain ⟨j2, H⟩ := q
              rw [hn] at nm
              obtain ⟨h', y4, y5, lc4⟩ := nm
              have l4 := lc4.1
              have s4 := cs_fr y5 s3
              have i2 := ht j' p2 (by omega)
              obtain ⟨q1, q2, q3, q4⟩ := tN_ok (b := 12) hm ht (show upC (cA A) 3 2 ≤ 12 from b3) 901 0 (j' + 1) 0 (by omega) (by omega) (by decide) j2 H hn
              let h5 := hI h' (c + 14) (A 4) (nI H)
              have f5 : FR h' h5 [c + 14] [] [] [] := FR.hI (by simp) (by omega) (by omega)
              have lc5 := lc_fr f5 (by intro y hy; simp at hy; omega) (by simp) lc4
              have e5 : f_X2_readWitness_j76 h 42 (nI (A 4)) = f_X2_readWitness_j142 h5 42 := by
                show _ = f_X2_readWitness_j142 (hI h' (c + 14) (A 4) (nI H)) 42
                rw [u_X2_readWitness_j76_e]; simp (disch := first | assumption | omega | decide | ((repeat first | apply lyI | apply lyJ | apply lywI | apply lywJ | apply csI | apply csJ | apply cswI | apply cswJ); assumption)) only [SR, SX, SC, LI, ↓li_m1, nI_add, pk_mul, nn_sub, nn_m1, nn_div, nn_rem, nn_nz, nn_mod, nJ_l, lN_add, lN_mul, nn_tb1, nI_bt, nn_and, nn_or, nn_xor, nn_shr, nn_1shl, nn_31, il_p, il_n, it_p, it_n, ie_p, ie_n, ie_b, ie_b1, ie_m, ie_mm, it_m, it_m0, il_m0, bI_rZ, Option.bind_some, bd2_some, Nat.add_zero, Nat.zero_add, if_true, if_false, Bool.false_eq_true, eq_self, hI_R, hJ_R, ng_t, ng_e, e12, r, y3, e10, ad', h63, y4]; try (unfold u_X2_readWitness_j76_c2; simp (disch := first | assumption | omega | decide | ((repeat first | apply lyI | apply lyJ | apply lywI | apply lywJ | apply csI | apply csJ | apply cswI | apply cswJ); assumption)) only [SR, SX, SC, LI, ↓li_m1, nI_add, pk_mul, nn_sub, nn_m1, nn_div, nn_rem, nn_nz, nn_mod, nJ_l, lN_add, lN_mul, nn_tb1, nI_bt, nn_and, nn_or, nn_xor, nn_shr, nn_1shl, nn_31, il_p, il_n, it_p, it_n, ie_p, ie_n, ie_b, ie_b1, ie_m, ie_mm, it_m, it_m0, il_m0, bI_rZ, Option.bind_some, bd2_some, Nat.add_zero, Nat.zero_add, if_true, if_false, Bool.false_eq_true, eq_self, hI_R, hJ_R, ng_t, ng_e, e12, r, y3, e10, ad', h63, y4]); try (unfold u_X2_readWitness_j76_c1; simp (disch := first | assumption | omega | decide | ((repeat first | apply lyI | apply lyJ | apply lywI | apply lywJ | apply csI | apply csJ | apply cswI | apply cswJ); assumption)) only [SR, SX, SC, LI, ↓li_m1, nI_add, pk_mul, nn_sub, nn_m1, nn_div, nn_rem, nn_nz, nn_mod, nJ_l, lN_add, lN_mul, nn_tb1, nI_bt, nn_and, nn_or, nn_xor, nn_shr, nn_1shl, nn_31, il_p, il_n, it_p, it_n, ie_p, ie_n, ie_b, ie_b1, ie_m, ie_mm, it_m, it_m0, il_m0, bI_rZ, Option.bind_some, bd2_some, Nat.add_zero, Nat.zero_add, if_true, if_false, Bool.false_eq_true, eq_self, hI_R, hJ_R, ng_t, ng_e, e12, r, y3, e10, ad', h63, y4])
              rw [e5]
              have fz : FR g h5 [4, c, c + 14] [4] [] [] := ((fg2.mono (by simp) (by simp) (by simp) (by simp)).tr (y5.mono (by simp) (by simp) (by simp) (by simp))).tr (f5.mono (by simp) (by simp) (by simp) (by simp))
              refine x_w9 h4 wf dg fz lc5 q3 (fun k => ?_) (fun x => ?_) (dv_w dv h4 k16 p4 q4 nv)
              · rw [f5.I c (by simp) (by omega) (by omega), y5.I c (by simp <;> omega) (by omega) (by omega), f2.I c (by simp <;> omega) (by omega) (by omega)]
                exact ec k
              · show (hI h' (c + 14) (A 4) (nI H)).2.1 (c + 14) x = _
                by_cases e : x = A 4
                · rw [if_pos e, e, rI_eq]
                · rw [if_neg e, rI_nk e, y5.I (c + 14) (by simp <;> omega) (by omega) (by omega), fg2.I (c + 14) (by simp <;> omega) (by omega) (by omega)]
          · rw [if_neg t17]
            have t3 : tcI T n j' = 3 := by omega
            have n17 : ¬ nI (tcI T n j') = nI 17 := d_ne (by have := tc_le (T := T) (n := n) (i := j'); omega) (by decide) t17
            have e5 : f_X2_readWitness_j76 h 42 (nI (A 4)) = f_X2_readWitness_j142 g1 42 := by
              show _ = f_X2_readWitness_j142 (hI g c 18 (nI (pk4 (mkN A W)))) 42
              rw [u_X2_readWitness_j76_e]; simp (disch := first | assumption | omega | decide | ((repeat first | apply lyI | apply lyJ | apply lywI | apply lywJ | apply csI | apply csJ | apply cswI | apply cswJ); assumption)) only [SR, SX, SC, LI, ↓li_m1, nI_add, pk_mul, nn_sub, nn_m1, nn_div, nn_rem, nn_nz, nn_mod, nJ_l, lN_add, lN_mul, nn_tb1, nI_bt, nn_and, nn_or, nn_xor, nn_shr, nn_1shl, nn_31, il_p, il_n, it_p, it_n, ie_p, ie_n, ie_b, ie_b1, ie_m, ie_mm, it_m, it_m0, il_m0, bI_rZ, Option.bind_some, bd2_some, Nat.add_zero, Nat.zero_add, if_true, if_false, Bool.false_eq_true, eq_self, hI_R, hJ_R, ng_t, ng_e, e12, r, y3, e10, if_neg n17]; try (unfold u_X2_readWitness_j76_c2; simp (disch := first | assumption | omega | decide | ((repeat first | apply lyI | apply lyJ | apply lywI | apply lywJ | apply csI | apply csJ | apply cswI | apply cswJ); assumption)) only [SR, SX, SC, LI, ↓li_m1, nI_add, pk_mul, nn_sub, nn_m1, nn_div, nn_rem, nn_nz, nn_mod, nJ_l, lN_add, lN_mul, nn_tb1, nI_bt, nn_and, nn_or, nn_xor, nn_shr, nn_1shl, nn_31, il_p, il_n, it_p, it_n, ie_p, ie_n, ie_b, ie_b1, ie_m, ie_mm, it_m, it_m0, il_m0, bI_rZ, Option.bind_some, bd2_some, Nat.add_zero, Nat.zero_add, if_true, if_false, Bool.false_eq_true, eq_self, hI_R, hJ_R, ng_t, ng_e, e12, r, y3, e10, if_neg n17]); try (unfold u_X2_readWitness_j76_c1; simp (disch := first | assumption | omega | decide | ((repeat first | apply lyI | apply lyJ | apply lywI | apply lywJ | apply csI | apply csJ | apply cswI | apply cswJ); assumption)) only [SR, SX, SC, LI, ↓li_m1, nI_add, pk_mul, nn_sub, nn_m1, nn_div, nn_rem, nn_nz, nn_mod, nJ_l, lN_add, lN_mul, nn_tb1, nI_bt, nn_and, nn_or, nn_xor, nn_shr, nn_1shl, nn_31, il_p, il_n, it_p, it_n, ie_p, ie_n, ie_b, ie_b1, ie_m, ie_mm, it_m, it_m0, il_m0, bI_rZ, Option.bind_some, bd2_some, Nat.add_zero, Nat.zero_add, if_true, if_false, Bool.false_eq_true, eq_self, hI_R, hJ_R, ng_t, ng_e, e12, r, y3, e10, if_neg n17])
            rw [e5]
            refine x_w9 h4 wf dg (fg.mono (by simp) (by simp) (by simp) (by simp)) lc2 t3 ec (fun x => ?_) (dv_w dv h4 k16 p4 (by decide) nv)
            rw [fg.I (c + 14) (by simp) (by omega) (by omega)]
            by_cases e : x = A 4
            · rw [if_pos e, e]
              exact z14
            · rw [if_neg e]
  · rw [if_pos t]
    obtain ⟨k1, k2⟩ := fk_b (T := T) (n := n) (i := j) (k := 2) (by decide) (by decide)
    exact dck_fl d k1 k2 f l1 (by rw [u_X2_readWitness_j76_e]; simp (disch := first | assumption | omega | decide | ((repeat first | apply lyI | apply lyJ | apply lywI | apply lywJ | apply csI | apply csJ | apply cswI | apply cswJ); assumption)) only [SR, SX, LI, ↓li_m1, nI_add, pk_mul, nn_sub, nn_m1, nn_div, nn_rem, nn_nz, nn_mod, nJ_l, lN_add, lN_mul, nn_tb1, nI_bt, nn_and, nn_or, nn_xor, nn_shr, nn_1shl, nn_31, il_p, il_n, it_p, it_n, ie_p, ie_n, ie_b, ie_b1, ie_m, ie_mm, it_m, it_m0, il_m0, bI_rZ, Option.bind_some, bd2_some, Nat.add_zero, Nat.zero_add, if_true, if_false, Bool.false_eq_true, eq_self, hI_R, hJ_R, ng_t, ng_e, e12, r]; try (unfold u_X2_readWitness_j76_c2; simp (disch := first | assumption | omega | decide | ((repeat first | apply lyI | apply lyJ | apply lywI | apply lywJ | apply csI | apply csJ | apply cswI | apply cswJ); assumption)) only [SR, SX, LI, ↓li_m1, nI_add, pk_mul, nn_sub, nn_m1, nn_div, nn_rem, nn_nz, nn_mod, nJ_l, lN_add, lN_mul, nn_tb1, nI_bt, nn_and, nn_or, nn_xor, nn_shr, nn_1shl, nn_31, il_p, il_n, it_p, it_n, ie_p, ie_n, ie_b, ie_b1, ie_m, ie_mm, it_m, it_m0, il_m0, bI_rZ, Option.bind_some, bd2_some, Nat.add_zero, Nat.zero_add, if_true, if_false, Bool.false_eq_true, eq_self, hI_R, hJ_R, ng_t, ng_e, e12, r]); try (unfold u_X2_readWitness_j76_c1; simp (disch := first | assumption | omega | decide | ((repeat first | apply lyI | apply lyJ | apply lywI | apply lywJ | apply csI | apply csJ | apply cswI | apply cswJ); assumption)) only [SR, SX, LI, ↓li_m1, nI_add, pk_mul, nn_sub, nn_m1, nn_div, nn_rem, nn_nz, nn_mod, nJ_l, lN_add, lN_mul, nn_tb1, nI_bt, nn_and, nn_or, nn_xor, nn_shr, nn_1shl, nn_31, il_p, il_n, it_p, it_n, ie_p, ie_n, ie_b, ie_b1, ie_m, ie_mm, it_m, it_m0, il_m0, bI_rZ, Option.bind_some, bd2_some, Nat.add_zero, Nat.zero_add, if_true, if_false, Bool.false_eq_true, eq_self, hI_R, hJ_R, ng_t, ng_e, e12, r]))
theorem x_wit {h0 h : aH} {c : Nat} {T : Nat → Nat} {n m i : Nat} {A : Nat → Nat} {V : Nat → List Nat} {Bv : Nat → Nat} {Q : Nat → Nat → Bool} (d : DC h0 h c T n m i A V Bv Q) (dv : DV A V Bv Q) (t : tcI T n i = 14) : OCc h0 c T n m (f_X2_readWitness h 42) (wO T n i A V Bv Q) := by
  obtain ⟨d1, lc, hs, h6, nc, dca, dn, dw⟩ := id d
  obtain ⟨wf, nv, a2, bb, zz, -, -, vf, sq⟩ := id dv
  obtain ⟨b0, b1, b2l, b2, b3, b4⟩ := wf_b wf
  have hl := lc.1
  have c0 := hs.1
  obtain ⟨hm, ht⟩ := lx_t lc
  have hi := lc.2.2.2
  have e17 : h.2.1 c 17 = nI (A 4) := dca.1.2.2.2.2.1
  unfold wO
  by_cases h4' : A 4 = 4
  · rw [if_pos h4']
    rw [h4'] at e17
    obtain ⟨h', r, f, l⟩ := x_ref lc 6
    rw [fk_n (by omega)] at l
    exact dc_fl d (by decide) (by decide) f l (by rw [u_X2_readWitness_e]; simp (disch := first | assumption | omega | decide | ((repeat first | apply lyI | apply lyJ | apply lywI | apply lywJ | apply csI | apply csJ | apply cswI | apply cswJ); assumption)) only [SR, SX, SC, LI, ↓li_m1, nI_add, pk_mul, nn_sub, nn_m1, nn_div, nn_rem, nn_nz, nn_mod, nJ_l, lN_add, lN_mul, nn_tb1, nI_bt, nn_and, nn_or, nn_xor, nn_shr, nn_1shl, nn_31, il_p, il_n, it_p, it_n, ie_p, ie_n, ie_b, ie_b1, ie_m, ie_mm, it_m, it_m0, il_m0, bI_rZ, Option.bind_some, bd2_some, Nat.add_zero, Nat.zero_add, if_true, if_false, Bool.false_eq_true, eq_self, hI_R, hJ_R, ng_t, ng_e, h6, e17, r, rz0]; try (unfold u_X2_readWitness_c2; simp (disch := first | assumption | omega | decide | ((repeat first | apply lyI | apply lyJ | apply lywI | apply lywJ | apply csI | apply csJ | apply cswI | apply cswJ); assumption)) only [SR, SX, SC, LI, ↓li_m1, nI_add, pk_mul, nn_sub, nn_m1, nn_div, nn_rem, nn_nz, nn_mod, nJ_l, lN_add, lN_mul, nn_tb1, nI_bt, nn_and, nn_or, nn_xor, nn_shr, nn_1shl, nn_31, il_p, il_n, it_p, it_n, ie_p, ie_n, ie_b, ie_b1, ie_m, ie_mm, it_m, it_m0, il_m0, bI_rZ, Option.bind_some, bd2_some, Nat.add_zero, Nat.zero_add, if_true, if_false, Bool.false_eq_true, eq_self, hI_R, hJ_R, ng_t, ng_e, h6, e17, r, rz0]); try (unfold u_X2_readWitness_c1; simp (disch := first | assumption | omega | decide | ((repeat first | apply lyI | apply lyJ | apply lywI | apply lywJ | apply csI | apply csJ | apply cswI | apply cswJ); assumption)) only [SR, SX, SC, LI, ↓li_m1, nI_add, pk_mul, nn_sub, nn_m1, nn_div, nn_rem, nn_nz, nn_mod, nJ_l, lN_add, lN_mul, nn_tb1, nI_bt, nn_and, nn_or, nn_xor, nn_shr, nn_1shl, nn_31, il_p, il_n, it_p, it_n, ie_p, ie_n, ie_b, ie_b1, ie_m, ie_mm, it_m, it_m0, il_m0, bI_rZ, Option.bind_some, bd2_some, Nat.add_zero, Nat.zero_add, if_true, if_false, Bool.false_eq_true, eq_self, hI_R, hJ_R, ng_t, ng_e, h6, e17, r, rz0]))
  rw [if_neg h4']
  have h4 : A 4 < 4 := by omega
  obtain ⟨h3, r3, f3, lc3⟩ := x_adv lc (lc_lt lc (by omega))
  have d3 := dc_4 d f3 lc3
  have l3 := lc3.1
  have h36 := d3.2.2.2.1
  obtain ⟨u1, u2⟩ := x_newName lc3 d3.2.2.1 h36 d3.2.2.2.2.1 nv (s := 3) (by decide) h4
  cases hb : nwB T n (i + 1) (cA A) V with
  | false =>
    rw [if_pos rfl]
    obtain ⟨h9, r, f, l⟩ := u2 hb
    have r' : f_X2_takeNewName h3 42 (nI 3) (nI (A 4)) = some (nI 0, h9) := r
    obtain ⟨n1, n2⟩ := nf_b (T := T) (n := n) (i := i + 1)
    exact dc_fl d3 n1 n2 f l (by rw [u_X2_readWitness_e]; simp (disch := first | assumption | omega | decide | ((repeat first | apply lyI | apply lyJ | apply lywI | apply lywJ | apply csI | apply csJ | apply cswI | apply cswJ); assumption)) only [SR, SX, SC, LI, ↓li_m1, nI_add, pk_mul, nn_sub, nn_m1, nn_div, nn_rem, nn_nz, nn_mod, nJ_l, lN_add, lN_mul, nn_tb1, nI_bt, nn_and, nn_or, nn_xor, nn_shr, nn_1shl, nn_31, il_p, il_n, it_p, it_n, ie_p, ie_n, ie_b, ie_b1, ie_m, ie_mm, it_m, it_m0, il_m0, bI_rZ, Option.bind_some, bd2_some, Nat.add_zero, Nat.zero_add, if_true, if_false, Bool.false_eq_true, eq_self, hI_R, hJ_R, ng_t, ng_e, h6, e17, r3, r']; try (unfold u_X2_readWitness_c2; simp (disch := first | assumption | omega | decide | ((repeat first | apply lyI | apply lyJ | apply lywI | apply lywJ | apply csI | apply csJ | apply cswI | apply cswJ); assumption)) only [SR, SX, SC, LI, ↓li_m1, nI_add, pk_mul, nn_sub, nn_m1, nn_div, nn_rem, nn_nz, nn_mod, nJ_l, lN_add, lN_mul, nn_tb1, nI_bt, nn_and, nn_or, nn_xor, nn_shr, nn_1shl, nn_31, il_p, il_n, it_p, it_n, ie_p, ie_n, ie_b, ie_b1, ie_m, ie_mm, it_m, it_m0, il_m0, bI_rZ, Option.bind_some, bd2_some, Nat.add_zero, Nat.zero_add, if_true, if_false, Bool.false_eq_true, eq_self, hI_R, hJ_R, ng_t, ng_e, h6, e17, r3, r']); try (unfold u_X2_readWitness_c1; simp (disch := first | assumption | omega | decide | ((repeat first | apply lyI | apply lyJ | apply lywI | apply lywJ | apply csI | apply csJ | apply cswI | apply cswJ); assumption)) only [SR, SX, SC, LI, ↓li_m1, nI_add, pk_mul, nn_sub, nn_m1, nn_div, nn_rem, nn_nz, nn_mod, nJ_l, lN_add, lN_mul, nn_tb1, nI_bt, nn_and, nn_or, nn_xor, nn_shr, nn_1shl, nn_31, il_p, il_n, it_p, it_n, ie_p, ie_n, ie_b, ie_b1, ie_m, ie_mm, it_m, it_m0, il_m0, bI_rZ, Option.bind_some, bd2_some, Nat.add_zero, Nat.zero_add, if_true, if_false, Bool.false_eq_true, eq_self, hI_R, hJ_R, ng_t, ng_e, h6, e17, r3, r']))
  | true =>
    rw [if_neg (by decide)]
    obtain ⟨h5, r5, f5, lc5, nc5⟩ := u1 hb
    have r5' : f_X2_takeNewName h3 42 (nI 3) (nI (A 4)) = some (nI 1, h5) := r5
    have d5 := dcm_nm (dc_m d3) f5 lc5 nc5
    have l5 := lc5.1
    rw [show i + 1 + 1 = i + 2 from rfl] at d5 lc5
    obtain ⟨k1, k2⟩ := nw_6 hb
    have nv' : NV (upC (cA A) 3) (wV T n (i + 1) A V) := (nv_up nv (wd_vd k1) (s := 3) (by decide) h4 k2).1
    have z6 : ∀ k, k < 6 → A (76 + 6 * A 4 + k) = 0 := fun k hk => zz (A 4) k (Nat.le_refl _) h4 hk
    have dk : DCk h0 h5 c T n m (i + 2) A (wP A 0 W00 0) (upC (cA A) 3) (wV T n (i + 1) A V) Bv Q := by
      rw [wp_0 z6]
      exact d5
    have e10 : h5.2.1 4 10 = nI (tcI T n (i + 2)) := lc5.2.2.1.2.1
    have tl := tc_le (T := T) (n := n) (i := i + 2)
    have i1 := ht i hi (by omega)
    have i2 := ht (i + 1) (by omega) (by omega)
    by_cases t15 : tcI T n (i + 2) = 15
    · rw [if_pos t15]
      rw [t15] at e10
      have i3 := ht (i + 2) (by omega) (by omega)
      obtain ⟨h7, r7, f7, lc7⟩ := x_adv lc5 (lc_lt lc5 (by omega))
      have dk7 := dck_4 dk f7 lc7
      have l7 := lc7.1
      have s7 := dk7.2.2.1
      have h76 := dk7.2.2.2.1
      have nm := x_names (s := 0) (up := 16) (b := 4) (by decide) (show upC (cA A) 3 0 ≤ 4 from b0) (by decide) (by decide) nv' lc7 s7 h76 dk7.2.2.2.2.1
      rw [show i + 2 + 1 = i + 3 from rfl] at nm
      cases hn : tN T n (upC (cA A) 3) (wV T n (i + 1) A V) 0 16 901 0 (i + 3) 0 with
      | inl q =>
        obtain ⟨a, b⟩ := q
        rw [hn] at nm
        obtain ⟨y1, y2, h', y4, y5, y6⟩ := nm
        have l8 := y6.1
        have s8 := cs_fr y5 s7
        have fe : FR h' (hI h' (c + 13) (A 4) (nI 0)) [c + 13] [] [] [] := FR.hI (by simp) (by omega) (by omega)
        have fl := fl_fr fe (by simp <;> omega) y6
        have ez : ¬ nI a = nI 0 := d_ne (by omega) (by decide) y1
        have e12x := fl.2.1
        have e5 : f_X2_readWitness h 42 = f_X2_readWitness_j76 (hI h' (c + 13) (A 4) (nI 0)) 42 (nI (A 4)) := by
          rw [u_X2_readWitness_e]; simp (disch := first | assumption | omega | decide | ((repeat first | apply lyI | apply lyJ | apply lywI | apply lywJ | apply csI | apply csJ | apply cswI | apply cswJ); assumption)) only [SR, SX, SC, LI, ↓li_m1, nI_add, pk_mul, nn_sub, nn_m1, nn_div, nn_rem, nn_nz, nn_mod, nJ_l, lN_add, lN_mul, nn_tb1, nI_bt, nn_and, nn_or, nn_xor, nn_shr, nn_1shl, nn_31, il_p, il_n, it_p, it_n, ie_p, ie_n, ie_b, ie_b1, ie_m, ie_mm, it_m, it_m0, il_m0, bI_rZ, Option.bind_some, bd2_some, Nat.add_zero, Nat.zero_add, if_true, if_false, Bool.false_eq_true, eq_self, hI_R, hJ_R, ng_t, ng_e, h6, e17, r3, r5', e10, r7, h76, y4]; try (unfold u_X2_readWitness_c2; simp (disch := first | assumption | omega | decide | ((repeat first | apply lyI | apply lyJ | apply lywI | apply lywJ | apply csI | apply csJ | apply cswI | apply cswJ); assumption)) only [SR, SX, SC, LI, ↓li_m1, nI_add, pk_mul, nn_sub, nn_m1, nn_div, nn_rem, nn_nz, nn_mod, nJ_l, lN_add, lN_mul, nn_tb1, nI_bt, nn_and, nn_or, nn_xor, nn_shr, nn_1shl, nn_31, il_p, il_n, it_p, it_n, ie_p, ie_n, ie_b, ie_b1, ie_m, ie_mm, it_m, it_m0, il_m0, bI_rZ, Option.bind_some, bd2_some, Nat.add_zero, Nat.zero_add, if_true, if_false, Bool.false_eq_true, eq_self, hI_R, hJ_R, ng_t, ng_e, h6, e17, r3, r5', e10, r7, h76, y4]); try (unfold u_X2_readWitness_c1; simp (disch := first | assumption | omega | decide | ((repeat first | apply lyI | apply lyJ | apply lywI | apply lywJ | apply csI | apply csJ | apply cswI | apply cswJ); assumption)) only [SR, SX, SC, LI, ↓li_m1, nI_add, pk_mul, nn_sub, nn_m1, nn_div, nn_rem, nn_nz, nn_mod, nJ_l, lN_add, lN_mul, nn_tb1, nI_bt, nn_and, nn_or, nn_xor, nn_shr, nn_1shl, nn_31, il_p, il_n, it_p, it_n, ie_p, ie_n, ie_b, ie_b1, ie_m, ie_mm, it_m, it_m0, il_m0, bI_rZ, Option.bind_some, bd2_some, Nat.add_zero, Nat.zero_add, if_true, if_false, Bool.false_eq_true, eq_self, hI_R, hJ_R, ng_t, ng_e, h6, e17, r3, r5', e10, r7, h76, y4])
        have e6 : f_X2_readWitness_j76 (hI h' (c + 13) (A 4) (nI 0)) 42 (nI (A 4)) = some (nI 0, hI h' (c + 13) (A 4) (nI 0)) := by
          rw [u_X2_readWitness_j76_e]; simp (disch := first | assumption | omega | decide | ((repeat first | apply lyI | apply lyJ | apply lywI | apply lywJ | apply csI | apply csJ | apply cswI | apply cswJ); assumption)) only [SR, SX, LI, ↓li_m1, nI_add, pk_mul, nn_sub, nn_m1, nn_div, nn_rem, nn_nz, nn_mod, nJ_l, lN_add, lN_mul, nn_tb1, nI_bt, nn_and, nn_or, nn_xor, nn_shr, nn_1shl, nn_31, il_p, il_n, it_p, it_n, ie_p, ie_n, ie_b, ie_b1, ie_m, ie_mm, it_m, it_m0, il_m0, bI_rZ, Option.bind_some, bd2_some, Nat.add_zero, Nat.zero_add, if_true, if_false, Bool.false_eq_true, eq_self, hI_R, hJ_R, ng_t, ng_e, e12x, if_neg ez]; try (unfold u_X2_readWitness_j76_c2; simp (disch := first | assumption | omega | decide | ((repeat first | apply lyI | apply lyJ | apply lywI | apply lywJ | apply csI | apply csJ | apply cswI | apply cswJ); assumption)) only [SR, SX, LI, ↓li_m1, nI_add, pk_mul, nn_sub, nn_m1, nn_div, nn_rem, nn_nz, nn_mod, nJ_l, lN_add, lN_mul, nn_tb1, nI_bt, nn_and, nn_or, nn_xor, nn_shr, nn_1shl, nn_31, il_p, il_n, it_p, it_n, ie_p, ie_n, ie_b, ie_b1, ie_m, ie_mm, it_m, it_m0, il_m0, bI_rZ, Option.bind_some, bd2_some, Nat.add_zero, Nat.zero_add, if_true, if_false, Bool.false_eq_true, eq_self, hI_R, hJ_R, ng_t, ng_e, e12x, if_neg ez]); try (unfold u_X2_readWitness_j76_c1; simp (disch := first | assumption | omega | decide | ((repeat first | apply lyI | apply lyJ | apply lywI | apply lywJ | apply csI | apply csJ | apply cswI | apply cswJ); assumption)) only [SR, SX, LI, ↓li_m1, nI_add, pk_mul, nn_sub, nn_m1, nn_div, nn_rem, nn_nz, nn_mod, nJ_l, lN_add, lN_mul, nn_tb1, nI_bt, nn_and, nn_or, nn_xor, nn_shr, nn_1shl, nn_31, il_p, il_n, it_p, it_n, ie_p, ie_n, ie_b, ie_b1, ie_m, ie_mm, it_m, it_m0, il_m0, bI_rZ, Option.bind_some, bd2_some, Nat.add_zero, Nat.zero_add, if_true, if_false, Bool.false_eq_true, eq_self, hI_R, hJ_R, ng_t, ng_e, e12x, if_neg ez])
        exact ⟨y1, y2, hI h' (c + 13) (A 4) (nI 0), e5.trans e6, dk7.1.tr ((y5.mono lcc_4 ljc_4 (by simp) (by simp)).tr (fe.mono (by intro x hx; unfold LCc; simp at hx ⊢; omega) (by simp) (by simp) (by simp))), fl⟩
      | inr q =>
        obtain ⟨j, K⟩ := q
        rw [hn] at nm
        obtain ⟨h', y4, y5, lc8⟩ := nm
        have dk8 := dck_4 dk7 y5 lc8
        have s8 := dk8.2.2.1
        have l8 := lc8.1
        obtain ⟨q1, q2, q3, q4⟩ := tN_ok (b := 4) hm ht (show upC (cA A) 3 0 ≤ 4 from b0) 901 0 (i + 3) 0 (by omega) (by omega) (by decide) j K hn
        let h9 := hI h' (c + 13) (A 4) (nI K)
        have f9 : FR h' h9 [c + 13] [] [] [] := FR.hI (by simp) (by omega) (by omega)
        have lc9 := lc_fr f9 (by intro y hy; simp at hy; omega) (by simp) lc8
        have da : DCa h9 c (wP A K W00 0) := by
          obtain ⟨g1, gf', gv, gq, gw⟩ := dk8.2.2.2.2.2.1
          obtain ⟨gw1, gw2, gw3⟩ := gw (A 4) h4
          rw [wp_k.2] at gw3
          refine dca_w (h := h') (K := 0) (W := W00) (H := 0) h4 (fun k => ?_) (fun j' hj' => ?_) (fun y hy => ?_) (fun k hk => ?_) (fun y hy => ?_) ?_ (fun y hy => ?_) ?_ dk8.2.2.2.2.2.1 b0 b1 b3
          · rw [f9.I c (by simp) (by omega) (by omega)]
          · exact f9.I _ (by simp at hj' ⊢; omega) (by simp at hj'; omega) (by simp at hj'; omega)
          · rw [f9.I (c + 12) (by simp) (by omega) (by omega)]
          · rw [f9.I (c + 12) (by simp) (by omega) (by omega), gw1 k hk, wp_w hk]
          · show (hI h' (c + 13) (A 4) (nI K)).2.1 (c + 13) y = _
            rw [rI_nk hy]
          · exact rI_eq
          · rw [f9.I (c + 14) (by simp) (by omega) (by omega)]
          · rw [f9.I (c + 14) (by simp) (by omega) (by omega)]
            exact gw3
        have dk9 := dck_fr dk8 (f9.mono (by simp) (by simp) (by simp) (by simp)) lc9 (by rw [f9.I c (by simp) (by omega) (by omega)]) da
        have e5 : f_X2_readWitness h 42 = f_X2_readWitness_j76 h9 42 (nI (A 4)) := by
          show _ = f_X2_readWitness_j76 (hI h' (c + 13) (A 4) (nI K)) 42 (nI (A 4))
          rw [u_X2_readWitness_e]; simp (disch := first | assumption | omega | decide | ((repeat first | apply lyI | apply lyJ | apply lywI | apply lywJ | apply csI | apply csJ | apply cswI | apply cswJ); assumption)) only [SR, SX, SC, LI, ↓li_m1, nI_add, pk_mul, nn_sub, nn_m1, nn_div, nn_rem, nn_nz, nn_mod, nJ_l, lN_add, lN_mul, nn_tb1, nI_bt, nn_and, nn_or, nn_xor, nn_shr, nn_1shl, nn_31, il_p, il_n, it_p, it_n, ie_p, ie_n, ie_b, ie_b1, ie_m, ie_mm, it_m, it_m0, il_m0, bI_rZ, Option.bind_some, bd2_some, Nat.add_zero, Nat.zero_add, if_true, if_false, Bool.false_eq_true, eq_self, hI_R, hJ_R, ng_t, ng_e, h6, e17, r3, r5', e10, r7, h76, y4]; try (unfold u_X2_readWitness_c2; simp (disch := first | assumption | omega | decide | ((repeat first | apply lyI | apply lyJ | apply lywI | apply lywJ | apply csI | apply csJ | apply cswI | apply cswJ); assumption)) only [SR, SX, SC, LI, ↓li_m1, nI_add, pk_mul, nn_sub, nn_m1, nn_div, nn_rem, nn_nz, nn_mod, nJ_l, lN_add, lN_mul, nn_tb1, nI_bt, nn_and, nn_or, nn_xor, nn_shr, nn_1shl, nn_31, il_p, il_n, it_p, it_n, ie_p, ie_n, ie_b, ie_b1, ie_m, ie_mm, it_m, it_m0, il_m0, bI_rZ, Option.bind_some, bd2_some, Nat.add_zero, Nat.zero_add, if_true, if_false, Bool.false_eq_true, eq_self, hI_R, hJ_R, ng_t, ng_e, h6, e17, r3, r5', e10, r7, h76, y4]); try (unfold u_X2_readWitness_c1; simp (disch := first | assumption | omega | decide | ((repeat first | apply lyI | apply lyJ | apply lywI | apply lywJ | apply csI | apply csJ | apply cswI | apply cswJ); assumption)) only [SR, SX, SC, LI, ↓li_m1, nI_add, pk_mul, nn_sub, nn_m1, nn_div, nn_rem, nn_nz, nn_mod, nJ_l, lN_add, lN_mul, nn_tb1, nI_bt, nn_and, nn_or, nn_xor, nn_shr, nn_1shl, nn_31, il_p, il_n, it_p, it_n, ie_p, ie_n, ie_b, ie_b1, ie_m, ie_mm, it_m, it_m0, il_m0, bI_rZ, Option.bind_some, bd2_some, Nat.add_zero, Nat.zero_add, if_true, if_false, Bool.false_eq_true, eq_self, hI_R, hJ_R, ng_t, ng_e, h6, e17, r3, r5', e10, r7, h76, y4])
        rw [e5]
        exact x_w76 h4 dv (by omega) nv' dk9
    · rw [if_neg t15]
      have n15 : ¬ nI (tcI T n (i + 2)) = nI 15 := d_ne (by omega) (by decide) t15
      have e5 : f_X2_readWitness h 42 = f_X2_readWitness_j76 h5 42 (nI (A 4)) := by
        rw [u_X2_readWitness_e]; simp (disch := first | assumption | omega | decide | ((repeat first | apply lyI | apply lyJ | apply lywI | apply lywJ | apply csI | apply csJ | apply cswI | apply cswJ); assumption)) only [SR, SX, SC, LI, ↓li_m1, nI_add, pk_mul, nn_sub, nn_m1, nn_div, nn_rem, nn_nz, nn_mod, nJ_l, lN_add, lN_mul, nn_tb1, nI_bt, nn_and, nn_or, nn_xor, nn_shr, nn_1shl, nn_31, il_p, il_n, it_p, it_n, ie_p, ie_n, ie_b, ie_b1, ie_m, ie_mm, it_m, it_m0, il_m0, bI_rZ, Option.bind_some, bd2_some, Nat.add_zero, Nat.zero_add, if_true, if_false, Bool.false_eq_true, eq_self, hI_R, hJ_R, ng_t, ng_e, h6, e17, r3, r5', e10, if_neg n15]; try (unfold u_X2_readWitness_c2; simp (disch := first | assumption | omega | decide | ((repeat first | apply lyI | apply lyJ | apply lywI | apply lywJ | apply csI | apply csJ | apply cswI | apply cswJ); assumption)) only [SR, SX, SC, LI, ↓li_m1, nI_add, pk_mul, nn_sub, nn_m1, nn_div, nn_rem, nn_nz, nn_mod, nJ_l, lN_add, lN_mul, nn_tb1, nI_bt, nn_and, nn_or, nn_xor, nn_shr, nn_1shl, nn_31, il_p, il_n, it_p, it_n, ie_p, ie_n, ie_b, ie_b1, ie_m, ie_mm, it_m, it_m0, il_m0, bI_rZ, Option.bind_some, bd2_some, Nat.add_zero, Nat.zero_add, if_true, if_false, Bool.false_eq_true, eq_self, hI_R, hJ_R, ng_t, ng_e, h6, e17, r3, r5', e10, if_neg n15]); try (unfold u_X2_readWitness_c1; simp (disch := first | assumption | omega | decide | ((repeat first | apply lyI | apply lyJ | apply lywI | apply lywJ | apply csI | apply csJ | apply cswI | apply cswJ); assumption)) only [SR, SX, SC, LI, ↓li_m1, nI_add, pk_mul, nn_sub, nn_m1, nn_div, nn_rem, nn_nz, nn_mod, nJ_l, lN_add, lN_mul, nn_tb1, nI_bt, nn_and, nn_or, nn_xor, nn_shr, nn_1shl, nn_31, il_p, il_n, it_p, it_n, ie_p, ie_n, ie_b, ie_b1, ie_m, ie_mm, it_m, it_m0, il_m0, bI_rZ, Option.bind_some, bd2_some, Nat.add_zero, Nat.zero_add, if_true, if_false, Bool.false_eq_true, eq_self, hI_R, hJ_R, ng_t, ng_e, h6, e17, r3, r5', e10, if_neg n15])
      rw [e5]
      exact x_w76 h4 dv (by decide) nv' dk
