/-! ===== cases: witnesses, both sides ===== -/
theorem r_257 {k0 k : aH} {T : Nat → Nat} {n j : Nat} {A : Nat → Nat} {V : Nat → List Nat} {Bv : Nat → Nat} {Q : Nat → Nat → Bool} {K : Nat} {W : Nat → Nat} {H : Nat} (h4 : A 4 < 4) (b0 : A 0 ≤ 4) (d : DRm k0 k T n j (wP A K W H) (upC (cA A) 3) V Bv Q) : ORc k0 T n (bd2 (f_X12_aWitness_j257 k 113) fun r k' => f_X12_casePart_j74 k' 113 r) (smD T n j (wA A K W H) V Bv Q) := by
  have kl := d.2.1.1
  have q4 : k.2.1 114 1604 = nI (A 4) := by
    have := d.2.2.2.1 4 (by decide) (by decide)
    rw [wp_n (by omega)] at this
    exact this
  have d1 := drm_at (A' := upN (wP A K W H) 4 (A 4 + 1)) d (j := 4) (x := A 4 + 1) (by decide) (by decide) up_e (fun y hy => up_n hy) (fun h => ⟨by rw [up_n (by decide)] at h; exact h, fun w => ag_cn (fun y hy h3 => by rw [up_n (by omega)]) (by rw [wp_n (by omega)]; exact b0)⟩)
  rw [wp_fin] at d1
  have dd : DR k0 (hI k 114 1604 (nI (A 4 + 1))) T n j (wA A K W H) V Bv Q := ⟨d1.1, d1.2.1, nre_cs (fun s hs => wa_cs hs) d1.2.2.1, d1.2.2.2⟩
  have e : f_X12_aWitness_j257 k 113 = some (nI 1, hI k 114 1604 (nI (A 4 + 1))) := by simp (disch := first | assumption | omega | decide | ((repeat first | apply lyI | apply lyJ | apply lywI | apply lywJ | apply csI | apply csJ | apply cswI | apply cswJ); assumption)) only [f_X12_aWitness_j257, SM, LI, ↓li_m1, nI_add, pk_mul, nn_sub, nn_m1, nn_div, nn_rem, nn_nz, nn_mod, nJ_l, lN_add, lN_mul, nn_tb1, nI_bt, nn_and, nn_or, nn_xor, nn_shr, nn_1shl, nn_31, il_p, il_n, it_p, it_n, ie_p, ie_n, ie_b, ie_b1, ie_m, ie_mm, it_m, it_m0, il_m0, bI_rZ, Option.bind_some, bd2_some, Nat.add_zero, Nat.zero_add, if_true, if_false, Bool.false_eq_true, eq_self, hI_R, hJ_R, ng_t, ng_e, q4]
  rw [e, bd2_some]
  exact r_smD dd
theorem orc_f {k0 : aH} {T : Nat → Nat} {n : Nat} {x : Option (Int32 × aH)} {f q : Nat} (h : ∃ k', x = some (nI 0, k') ∧ FRR k0 k' ∧ RLx k' f q) : ORc k0 T n (bd2 x fun r k' => f_X12_casePart_j74 k' 113 r) (.inl (f, q)) := by
  obtain ⟨k', e, y1, y2⟩ := h
  exact ⟨k', by rw [e, bd2_some, j74_0], y1, y2⟩
theorem r_224 {k0 k : aH} {T : Nat → Nat} {n m j : Nat} {A : Nat → Nat} {V : Nat → List Nat} {Bv : Nat → Nat} {Q : Nat → Nat → Bool} {K : Nat} {W : Nat → Nat} (h4 : A 4 < 4) (b0 : A 0 ≤ 4) (b3 : A 3 ≤ 12) (nv : NV (upC (cA A) 3) V) (hm : m ≤ 900) (ht : ∀ i, i ≤ m → 2 ≤ tcI T n i → i < m) (hj : j ≤ m) (d : DRm k0 k T n j (wP A K W 0) (upC (cA A) 3) V Bv Q) : ORc k0 T n (bd2 (f_X12_aWitness_j224 k 113 (nI (1676 + 6 * A 4))) fun r k' => f_X12_casePart_j74 k' 113 r) (if tcI T n j = 17 then (match tN T n (upC (cA A) 3) V 2 3 901 0 (j + 1) 0 with
    | .inl e => .inl e
    | .inr (j2, H) => .inr (j2 + 1, wA A K W H, V, Bv, Q)) else smD T n j (wA A K W 0) V Bv Q) := by
  have rc := d.2.1
  have kl := rc.1
  have iw := r_inW kl rc.2.1
  by_cases t17 : tcI T n j = 17
  · rw [if_pos t17]
    have i9 : iwI T n j = nI 9 := (iw_e (q := 9) (by decide)).mpr t17
    rw [i9] at iw
    have i1 := ht j hj (by omega)
    have q3 : k.2.1 114 1603 = nI (A 3) := by
      have := d.2.2.2.1 3 (by decide) (by decide)
      rw [wp_n (by omega)] at this
      exact this
    have sv := r_sev (s := 2) (up := 3) (b := 12) (r := 76 + 6 * A 4 + 5) (by omega) (by omega) (by decide) (show upC (cA A) 3 2 ≤ 12 from b3) (by decide) (by rw [wp_n (by omega)]; exact b0) wp_k.2 nv hm ht (by decide) (by omega) d
    have ib : 1600 + (76 + 6 * A 4 + 5) = 1676 + 6 * A 4 + 5 := by omega
    rw [ib] at sv
    cases hn : tN T n (upC (cA A) 3) V 2 3 901 0 (j + 1) 0 with
    | inl q =>
      obtain ⟨a, b⟩ := q
      rw [hn] at sv
      show ORc k0 T n _ (.inl (a, b))
      rcases sv with ⟨k', e, y1, y2⟩ | ⟨k', j2, S, e, d2, n3, ea, eb⟩
      · have e' : f_X12_several k 113 (nI (1676 + 6 * A 4 + 5)) (nI 28) (nI (A 3)) = some (nI 0, k') := e
        exact orc_f ⟨k', by simp (disch := first | assumption | omega | decide | ((repeat first | apply lyI | apply lyJ | apply lywI | apply lywJ | apply csI | apply csJ | apply cswI | apply cswJ); assumption)) only [f_X12_aWitness_j224, SM, LI, ↓li_m1, nI_add, pk_mul, nn_sub, nn_m1, nn_div, nn_rem, nn_nz, nn_mod, nJ_l, lN_add, lN_mul, nn_tb1, nI_bt, nn_and, nn_or, nn_xor, nn_shr, nn_1shl, nn_31, il_p, il_n, it_p, it_n, ie_p, ie_n, ie_b, ie_b1, ie_m, ie_mm, it_m, it_m0, il_m0, bI_rZ, Option.bind_some, bd2_some, Nat.add_zero, Nat.zero_add, if_true, if_false, Bool.false_eq_true, eq_self, hI_R, hJ_R, ng_t, ng_e, iw, q3, e'], y1, y2⟩
      · have e' : f_X12_several k 113 (nI (1676 + 6 * A 4 + 5)) (nI 28) (nI (A 3)) = some (nI 1, k') := e
        have e2 : f_X12_aWitness_j224 k 113 (nI (1676 + 6 * A 4)) = f_X12_aWitness_j257 k' 113 := by simp (disch := first | assumption | omega | decide | ((repeat first | apply lyI | apply lyJ | apply lywI | apply lywJ | apply csI | apply csJ | apply cswI | apply cswJ); assumption)) only [f_X12_aWitness_j224, SM, LI, ↓li_m1, nI_add, pk_mul, nn_sub, nn_m1, nn_div, nn_rem, nn_nz, nn_mod, nJ_l, lN_add, lN_mul, nn_tb1, nI_bt, nn_and, nn_or, nn_xor, nn_shr, nn_1shl, nn_31, il_p, il_n, it_p, it_n, ie_p, ie_n, ie_b, ie_b1, ie_m, ie_mm, it_m, it_m0, il_m0, bI_rZ, Option.bind_some, bd2_some, Nat.add_zero, Nat.zero_add, if_true, if_false, Bool.false_eq_true, eq_self, hI_R, hJ_R, ng_t, ng_e, iw, q3, e']
        rw [wp_H] at d2
        have := r_257 h4 b0 d2
        rw [show smD T n j2 (wA A K W S) V Bv Q = .inl (fkN T n j2 2, frI T n j2) from if_neg n3, ← ea, ← eb] at this
        rw [e2]
        exact this
    | inr q =>
      obtain ⟨j2, H⟩ := q
      rw [hn] at sv
      obtain ⟨k', e, d2⟩ := sv
      obtain ⟨q1, q2, q3', q4⟩ := tN_ok (b := 12) hm ht (show upC (cA A) 3 2 ≤ 12 from b3) 901 0 (j + 1) 0 (by omega) (by omega) (by decide) j2 H hn
      have e' : f_X12_several k 113 (nI (1676 + 6 * A 4 + 5)) (nI 28) (nI (A 3)) = some (nI 1, k') := e
      have e2 : f_X12_aWitness_j224 k 113 (nI (1676 + 6 * A 4)) = f_X12_aWitness_j257 k' 113 := by simp (disch := first | assumption | omega | decide | ((repeat first | apply lyI | apply lyJ | apply lywI | apply lywJ | apply csI | apply csJ | apply cswI | apply cswJ); assumption)) only [f_X12_aWitness_j224, SM, LI, ↓li_m1, nI_add, pk_mul, nn_sub, nn_m1, nn_div, nn_rem, nn_nz, nn_mod, nJ_l, lN_add, lN_mul, nn_tb1, nI_bt, nn_and, nn_or, nn_xor, nn_shr, nn_1shl, nn_31, il_p, il_n, it_p, it_n, ie_p, ie_n, ie_b, ie_b1, ie_m, ie_mm, it_m, it_m0, il_m0, bI_rZ, Option.bind_some, bd2_some, Nat.add_zero, Nat.zero_add, if_true, if_false, Bool.false_eq_true, eq_self, hI_R, hJ_R, ng_t, ng_e, iw, q3, e']
      rw [wp_H] at d2
      have := r_257 h4 b0 d2
      rw [show smD T n j2 (wA A K W H) V Bv Q = .inr (j2 + 1, wA A K W H, V, Bv, Q) from if_pos q3'] at this
      rw [e2]
      exact this
  · rw [if_neg t17]
    have n9 : ¬ iwI T n j = nI 9 := fun e => t17 ((iw_e (q := 9) (by decide)).mp e)
    have e2 : f_X12_aWitness_j224 k 113 (nI (1676 + 6 * A 4)) = f_X12_aWitness_j257 k 113 := by simp (disch := first | assumption | omega | decide | ((repeat first | apply lyI | apply lyJ | apply lywI | apply lywJ | apply csI | apply csJ | apply cswI | apply cswJ); assumption)) only [f_X12_aWitness_j224, SM, LI, ↓li_m1, nI_add, pk_mul, nn_sub, nn_m1, nn_div, nn_rem, nn_nz, nn_mod, nJ_l, lN_add, lN_mul, nn_tb1, nI_bt, nn_and, nn_or, nn_xor, nn_shr, nn_1shl, nn_31, il_p, il_n, it_p, it_n, ie_p, ie_n, ie_b, ie_b1, ie_m, ie_mm, it_m, it_m0, il_m0, bI_rZ, Option.bind_some, bd2_some, Nat.add_zero, Nat.zero_add, if_true, if_false, Bool.false_eq_true, eq_self, hI_R, hJ_R, ng_t, ng_e, iw, if_neg n9]
    rw [e2]
    exact r_257 h4 b0 d
theorem r_w78 {k0 k : aH} {T : Nat → Nat} {n m j : Nat} {A : Nat → Nat} {V : Nat → List Nat} {Bv : Nat → Nat} {Q : Nat → Nat → Bool} {K : Nat} (h4 : A 4 < 4) (b0 : A 0 ≤ 4) (b3 : A 3 ≤ 12) (nv : NV (upC (cA A) 3) V) (hm : m ≤ 900) (ht : ∀ i, i ≤ m → 2 ≤ tcI T n i → i < m) (hj : j ≤ m) (d : DRm k0 k T n j (wP A K W00 0) (upC (cA A) 3) V Bv Q) : ORc k0 T n (bd2 (f_X12_aWitness_j78 k 113 (nI (1676 + 6 * A 4))) fun r k' => f_X12_casePart_j74 k' 113 r) (wO2 T n j A V Bv Q K) := by
  have rc := d.2.1
  have kl := rc.1
  obtain ⟨w1, w2⟩ := r_wantW rc (q := 8) (by decide)
  unfold wO2
  by_cases t : tcI T n j = 16
  · rw [if_neg (fun z => z t)]
    obtain ⟨k1, r1, f1, rc1⟩ := w1 t
    have r1' : f_X12_wantWord k 113 1 (nI 8) = some (nI 1, k1) := r1
    have d1 := drm_13 d f1 rc1
    have l1 := rc1.1
    have iw := r_inW l1 rc1.2.1
    have j1 := ht j hj (by omega)
    have kw0 : KWa W00 0 := ⟨fun _ => Nat.zero_le _, fun _ _ => rfl, rfl⟩
    cases hk1 : kdB (tcI T n (j + 1)) with
    | false =>
      have ek : kN T n 901 0 (j + 1) W00 0 = .inl (fkN T n (j + 1) 2, frI T n (j + 1)) := by
        show (if kdB (tcI T n (j + 1)) = false then _ else _) = _
        rw [if_pos hk1, if_neg (fun z => z rfl)]
      obtain ⟨k', r, f, l⟩ := r_fail rc1 2
      rw [ek]
      refine orc_f ⟨k', ?_, frr_13 d1.1 f, l⟩
      have e1 : f_X12_aWitness_j78 k 113 (nI (1676 + 6 * A 4)) = f_X12_aWitness_j110 k1 113 := by
        have kn := kx_n hk1
        have kn' : iwI T n (j + 1) - nI 13 < nI 0 ∨ (nI 4 ≤ iwI T n (j + 1) - nI 13 ∧ ¬ (iwI T n (j + 1) - nI 13 < nI 0) ∧ ¬ (iwI T n (j + 1) - nI 13 ≤ nI 3)) := kn
        rcases kn' with q | ⟨q1, q2, q3⟩
        · rw [u_X12_aWitness_j78_e]; simp (disch := first | assumption | omega | decide | ((repeat first | apply lyI | apply lyJ | apply lywI | apply lywJ | apply csI | apply csJ | apply cswI | apply cswJ); assumption)) only [SM, LI, ↓li_m1, nI_add, pk_mul, nn_sub, nn_m1, nn_div, nn_rem, nn_nz, nn_mod, nJ_l, lN_add, lN_mul, nn_tb1, nI_bt, nn_and, nn_or, nn_xor, nn_shr, nn_1shl, nn_31, il_p, il_n, it_p, it_n, ie_p, ie_n, ie_b, ie_b1, ie_m, ie_mm, it_m, it_m0, il_m0, bI_rZ, Option.bind_some, bd2_some, Nat.add_zero, Nat.zero_add, if_true, if_false, Bool.false_eq_true, eq_self, hI_R, hJ_R, ng_t, ng_e, r1', iw, if_pos q]; try (unfold u_X12_aWitness_j78_c1; simp (disch := first | assumption | omega | decide | ((repeat first | apply lyI | apply lyJ | apply lywI | apply lywJ | apply csI | apply csJ | apply cswI | apply cswJ); assumption)) only [SM, LI, ↓li_m1, nI_add, pk_mul, nn_sub, nn_m1, nn_div, nn_rem, nn_nz, nn_mod, nJ_l, lN_add, lN_mul, nn_tb1, nI_bt, nn_and, nn_or, nn_xor, nn_shr, nn_1shl, nn_31, il_p, il_n, it_p, it_n, ie_p, ie_n, ie_b, ie_b1, ie_m, ie_mm, it_m, it_m0, il_m0, bI_rZ, Option.bind_some, bd2_some, Nat.add_zero, Nat.zero_add, if_true, if_false, Bool.false_eq_true, eq_self, hI_R, hJ_R, ng_t, ng_e, r1', iw, if_pos q])
        · rw [u_X12_aWitness_j78_e]; simp (disch := first | assumption | omega | decide | ((repeat first | apply lyI | apply lyJ | apply lywI | apply lywJ | apply csI | apply csJ | apply cswI | apply cswJ); assumption)) only [SM, LI, ↓li_m1, nI_add, pk_mul, nn_sub, nn_m1, nn_div, nn_rem, nn_nz, nn_mod, nJ_l, lN_add, lN_mul, nn_tb1, nI_bt, nn_and, nn_or, nn_xor, nn_shr, nn_1shl, nn_31, il_p, il_n, it_p, it_n, ie_p, ie_n, ie_b, ie_b1, ie_m, ie_mm, it_m, it_m0, il_m0, bI_rZ, Option.bind_some, bd2_some, Nat.add_zero, Nat.zero_add, if_true, if_false, Bool.false_eq_true, eq_self, hI_R, hJ_R, ng_t, ng_e, r1', iw, if_neg q2, if_neg q3]; try (unfold u_X12_aWitness_j78_c1; simp (disch := first | assumption | omega | decide | ((repeat first | apply lyI | apply lyJ | apply lywI | apply lywJ | apply csI | apply csJ | apply cswI | apply cswJ); assumption)) only [SM, LI, ↓li_m1, nI_add, pk_mul, nn_sub, nn_m1, nn_div, nn_rem, nn_nz, nn_mod, nJ_l, lN_add, lN_mul, nn_tb1, nI_bt, nn_and, nn_or, nn_xor, nn_shr, nn_1shl, nn_31, il_p, il_n, it_p, it_n, ie_p, ie_n, ie_b, ie_b1, ie_m, ie_mm, it_m, it_m0, il_m0, bI_rZ, Option.bind_some, bd2_some, Nat.add_zero, Nat.zero_add, if_true, if_false, Bool.false_eq_true, eq_self, hI_R, hJ_R, ng_t, ng_e, r1', iw, if_neg q2, if_neg q3])
      rw [e1]
      simp (disch := first | assumption | omega | decide | ((repeat first | apply lyI | apply lyJ | apply lywI | apply lywJ | apply csI | apply csJ | apply cswI | apply cswJ); assumption)) only [f_X12_aWitness_j110, SM, LI, ↓li_m1, nI_add, pk_mul, nn_sub, nn_m1, nn_div, nn_rem, nn_nz, nn_mod, nJ_l, lN_add, lN_mul, nn_tb1, nI_bt, nn_and, nn_or, nn_xor, nn_shr, nn_1shl, nn_31, il_p, il_n, it_p, it_n, ie_p, ie_n, ie_b, ie_b1, ie_m, ie_mm, it_m, it_m0, il_m0, bI_rZ, Option.bind_some, bd2_some, Nat.add_zero, Nat.zero_add, if_true, if_false, Bool.false_eq_true, eq_self, hI_R, hJ_R, ng_t, ng_e, r, rz0]
    | true =>
      have ky := kx_y hk1
      obtain ⟨t1, t2⟩ := kd_i hk1
      have lp := r_kN (k0 := k0) (C := upC (cA A) 3) (V := V) (Bv := Bv) (Q := Q) (K := K) h4 b0 hm ht 901 0 (j + 1) wN k1 W00 0 (by omega) (by omega) (by rw [wN_e]; omega) kw0 (fun _ => hk1) d1
      have e1 : f_X12_aWitness_j78 k 113 (nI (1676 + 6 * A 4)) = (f_X12_aWitness_l119 113 (nI (1676 + 6 * A 4)) (kxI T n (j + 1)) (nI 0) k1).bind (kRe (nI (1676 + 6 * A 4))) := by
        have ky' : iwI T n (j + 1) - nI 13 = nI (tcI T n (j + 1) - 21) := ky
        rw [ky]
        cases hz : f_X12_aWitness_l119 113 (nI (1676 + 6 * A 4)) (nI (tcI T n (j + 1) - 21)) (nI 0) k1 with
        | none => rw [u_X12_aWitness_j78_e]; simp (disch := first | assumption | omega | decide | ((repeat first | apply lyI | apply lyJ | apply lywI | apply lywJ | apply csI | apply csJ | apply cswI | apply cswJ); assumption)) only [SM, LI, ↓li_m1, nI_add, pk_mul, nn_sub, nn_m1, nn_div, nn_rem, nn_nz, nn_mod, nJ_l, lN_add, lN_mul, nn_tb1, nI_bt, nn_and, nn_or, nn_xor, nn_shr, nn_1shl, nn_31, il_p, il_n, it_p, it_n, ie_p, ie_n, ie_b, ie_b1, ie_m, ie_mm, it_m, it_m0, il_m0, bI_rZ, Option.bind_some, bd2_some, Nat.add_zero, Nat.zero_add, if_true, if_false, Bool.false_eq_true, eq_self, hI_R, hJ_R, ng_t, ng_e, r1', iw, ky', hz, Option.bind_none]; try (unfold u_X12_aWitness_j78_c1; simp (disch := first | assumption | omega | decide | ((repeat first | apply lyI | apply lyJ | apply lywI | apply lywJ | apply csI | apply csJ | apply cswI | apply cswJ); assumption)) only [SM, LI, ↓li_m1, nI_add, pk_mul, nn_sub, nn_m1, nn_div, nn_rem, nn_nz, nn_mod, nJ_l, lN_add, lN_mul, nn_tb1, nI_bt, nn_and, nn_or, nn_xor, nn_shr, nn_1shl, nn_31, il_p, il_n, it_p, it_n, ie_p, ie_n, ie_b, ie_b1, ie_m, ie_mm, it_m, it_m0, il_m0, bI_rZ, Option.bind_some, bd2_some, Nat.add_zero, Nat.zero_add, if_true, if_false, Bool.false_eq_true, eq_self, hI_R, hJ_R, ng_t, ng_e, r1', iw, ky', hz, Option.bind_none])
        | some z => rcases z with z | z | ⟨z1, z⟩ <;> (rw [u_X12_aWitness_j78_e]; simp (disch := first | assumption | omega | decide | ((repeat first | apply lyI | apply lyJ | apply lywI | apply lywJ | apply csI | apply csJ | apply cswI | apply cswJ); assumption)) only [kRe, SM, LI, ↓li_m1, nI_add, pk_mul, nn_sub, nn_m1, nn_div, nn_rem, nn_nz, nn_mod, nJ_l, lN_add, lN_mul, nn_tb1, nI_bt, nn_and, nn_or, nn_xor, nn_shr, nn_1shl, nn_31, il_p, il_n, it_p, it_n, ie_p, ie_n, ie_b, ie_b1, ie_m, ie_mm, it_m, it_m0, il_m0, bI_rZ, Option.bind_some, bd2_some, Nat.add_zero, Nat.zero_add, if_true, if_false, Bool.false_eq_true, eq_self, hI_R, hJ_R, ng_t, ng_e, r1', iw, ky', hz]; try (unfold u_X12_aWitness_j78_c1; simp (disch := first | assumption | omega | decide | ((repeat first | apply lyI | apply lyJ | apply lywI | apply lywJ | apply csI | apply csJ | apply cswI | apply cswJ); assumption)) only [kRe, SM, LI, ↓li_m1, nI_add, pk_mul, nn_sub, nn_m1, nn_div, nn_rem, nn_nz, nn_mod, nJ_l, lN_add, lN_mul, nn_tb1, nI_bt, nn_and, nn_or, nn_xor, nn_shr, nn_1shl, nn_31, il_p, il_n, it_p, it_n, ie_p, ie_n, ie_b, ie_b1, ie_m, ie_mm, it_m, it_m0, il_m0, bI_rZ, Option.bind_some, bd2_some, Nat.add_zero, Nat.zero_add, if_true, if_false, Bool.false_eq_true, eq_self, hI_R, hJ_R, ng_t, ng_e, r1', iw, ky', hz]))
      have lp' : OKr k0 T n A K (upC (cA A) 3) V Bv Q (f_X12_aWitness_j78 k 113 (nI (1676 + 6 * A 4))) (kN T n 901 0 (j + 1) W00 0) := by
        rw [e1]
        exact lp
      cases hk : kN T n 901 0 (j + 1) W00 0 with
      | inl q =>
        obtain ⟨a, b⟩ := q
        rw [hk] at lp'
        exact orc_f lp'
      | inr q =>
        obtain ⟨j', W, s⟩ := q
        rw [hk] at lp'
        obtain ⟨k2, e2, d2⟩ := lp'
        obtain ⟨p1, p2, p3, p4⟩ := kN_ok hm ht 901 0 (j + 1) W00 0 (by omega) (by omega) kw0 j' W s hk
        have ks : s ≤ 64 := by
          obtain ⟨k1', k2', k3'⟩ := p4
          have := k1' 0
          have := k1' 1
          have := k1' 2
          have := k1' 3
          omega
        have rc2 := d2.2.1
        have l2 := rc2.1
        have iw2 := r_inW l2 rc2.2.1
        have sg := r_sign l2 rc2.2.1 (t := 3) (c := 59) (Or.inl ⟨rfl, rfl⟩)
        rw [e2]
        show ORc k0 T n _ (if tcI T n j' ≠ 17 ∧ tcI T n j' ≠ 3 then .inl (fkN T n j' 2, frI T n j') else if s ≠ 16 then .inl (8, frI T n j') else if tcI T n j' = 17 then (match tN T n (upC (cA A) 3) V 2 3 901 0 (j' + 1) 0 with
          | .inl e => .inl e
          | .inr (j2, H) => .inr (j2 + 1, wA A K W H, V, Bv, Q)) else .inr (j' + 1, wA A K W 0, V, Bv, Q))
        have o224 := r_224 (K := K) (W := W) h4 b0 b3 nv hm ht p2 d2
        by_cases h1 : tcI T n j' ≠ 17 ∧ tcI T n j' ≠ 3
        · rw [if_pos h1]
          rw [decide_eq_false h1.2, bI_f] at sg
          have n9 : ¬ iwI T n j' = nI 9 := fun e => h1.1 ((iw_e (q := 9) (by decide)).mp e)
          have e3 : f_X12_aWitness_j190 k2 113 (nI (1676 + 6 * A 4)) (nI s) = f_X12_aWitness_j224 k2 113 (nI (1676 + 6 * A 4)) := by simp (disch := first | assumption | omega | decide | ((repeat first | apply lyI | apply lyJ | apply lywI | apply lywJ | apply csI | apply csJ | apply cswI | apply cswJ); assumption)) only [f_X12_aWitness_j190, SM, LI, ↓li_m1, nI_add, pk_mul, nn_sub, nn_m1, nn_div, nn_rem, nn_nz, nn_mod, nJ_l, lN_add, lN_mul, nn_tb1, nI_bt, nn_and, nn_or, nn_xor, nn_shr, nn_1shl, nn_31, il_p, il_n, it_p, it_n, ie_p, ie_n, ie_b, ie_b1, ie_m, ie_mm, it_m, it_m0, il_m0, bI_rZ, Option.bind_some, bd2_some, Nat.add_zero, Nat.zero_add, if_true, if_false, Bool.false_eq_true, eq_self, hI_R, hJ_R, ng_t, ng_e, sg, iw2, if_neg n9]
          rw [e3]
          rw [if_neg h1.1, show smD T n j' (wA A K W 0) V Bv Q = .inl (fkN T n j' 2, frI T n j') from if_neg h1.2] at o224
          exact o224
        · rw [if_neg h1]
          have e3 : f_X12_aWitness_j190 k2 113 (nI (1676 + 6 * A 4)) (nI s) = f_X12_aWitness_j210 k2 113 (nI (1676 + 6 * A 4)) (nI s) := by
            by_cases t3 : tcI T n j' = 3
            · rw [decide_eq_true t3, bI_t] at sg
              simp (disch := first | assumption | omega | decide | ((repeat first | apply lyI | apply lyJ | apply lywI | apply lywJ | apply csI | apply csJ | apply cswI | apply cswJ); assumption)) only [f_X12_aWitness_j190, SM, LI, ↓li_m1, nI_add, pk_mul, nn_sub, nn_m1, nn_div, nn_rem, nn_nz, nn_mod, nJ_l, lN_add, lN_mul, nn_tb1, nI_bt, nn_and, nn_or, nn_xor, nn_shr, nn_1shl, nn_31, il_p, il_n, it_p, it_n, ie_p, ie_n, ie_b, ie_b1, ie_m, ie_mm, it_m, it_m0, il_m0, bI_rZ, Option.bind_some, bd2_some, Nat.add_zero, Nat.zero_add, if_true, if_false, Bool.false_eq_true, eq_self, hI_R, hJ_R, ng_t, ng_e, sg]
            · rw [decide_eq_false t3, bI_f] at sg
              have i9 : iwI T n j' = nI 9 := (iw_e (q := 9) (by decide)).mpr (by omega)
              rw [i9] at iw2
              simp (disch := first | assumption | omega | decide | ((repeat first | apply lyI | apply lyJ | apply lywI | apply lywJ | apply csI | apply csJ | apply cswI | apply cswJ); assumption)) only [f_X12_aWitness_j190, SM, LI, ↓li_m1, nI_add, pk_mul, nn_sub, nn_m1, nn_div, nn_rem, nn_nz, nn_mod, nJ_l, lN_add, lN_mul, nn_tb1, nI_bt, nn_and, nn_or, nn_xor, nn_shr, nn_1shl, nn_31, il_p, il_n, it_p, it_n, ie_p, ie_n, ie_b, ie_b1, ie_m, ie_mm, it_m, it_m0, il_m0, bI_rZ, Option.bind_some, bd2_some, Nat.add_zero, Nat.zero_add, if_true, if_false, Bool.false_eq_true, eq_self, hI_R, hJ_R, ng_t, ng_e, sg, iw2]
          rw [e3]
          by_cases h16 : s = 16
          · rw [if_neg (fun z => z h16)]
            have e4 : f_X12_aWitness_j210 k2 113 (nI (1676 + 6 * A 4)) (nI s) = f_X12_aWitness_j224 k2 113 (nI (1676 + 6 * A 4)) := by
              rw [h16]
              simp (disch := first | assumption | omega | decide | ((repeat first | apply lyI | apply lyJ | apply lywI | apply lywJ | apply csI | apply csJ | apply cswI | apply cswJ); assumption)) only [f_X12_aWitness_j210, LI, ↓li_m1, nI_add, pk_mul, nn_sub, nn_m1, nn_div, nn_rem, nn_nz, nn_mod, nJ_l, lN_add, lN_mul, nn_tb1, nI_bt, nn_and, nn_or, nn_xor, nn_shr, nn_1shl, nn_31, il_p, il_n, it_p, it_n, ie_p, ie_n, ie_b, ie_b1, ie_m, ie_mm, it_m, it_m0, il_m0, bI_rZ, Option.bind_some, bd2_some, Nat.add_zero, Nat.zero_add, if_true, if_false, Bool.false_eq_true, eq_self, hI_R, hJ_R, ng_t, ng_e]
            rw [e4]
            by_cases t17 : tcI T n j' = 17
            · rw [if_pos t17] at o224 ⊢
              exact o224
            · rw [if_neg t17] at o224 ⊢
              rw [show smD T n j' (wA A K W 0) V Bv Q = .inr (j' + 1, wA A K W 0, V, Bv, Q) from if_pos (by omega)] at o224
              exact o224
          · rw [if_pos h16]
            obtain ⟨k', r, f, l⟩ := r_fail rc2 8
            rw [fk_n (by omega)] at l
            have n16 : ¬ nI s = nI 16 := d_ne (by omega) (by decide) h16
            exact orc_f ⟨k', by simp (disch := first | assumption | omega | decide | ((repeat first | apply lyI | apply lyJ | apply lywI | apply lywJ | apply csI | apply csJ | apply cswI | apply cswJ); assumption)) only [f_X12_aWitness_j210, SM, LI, ↓li_m1, nI_add, pk_mul, nn_sub, nn_m1, nn_div, nn_rem, nn_nz, nn_mod, nJ_l, lN_add, lN_mul, nn_tb1, nI_bt, nn_and, nn_or, nn_xor, nn_shr, nn_1shl, nn_31, il_p, il_n, it_p, it_n, ie_p, ie_n, ie_b, ie_b1, ie_m, ie_mm, it_m, it_m0, il_m0, bI_rZ, Option.bind_some, bd2_some, Nat.add_zero, Nat.zero_add, if_true, if_false, Bool.false_eq_true, eq_self, hI_R, hJ_R, ng_t, ng_e, if_neg n16, r, rz0], frr_13 d2.1 f, l⟩
  · rw [if_pos t]
    obtain ⟨k', r, f, l⟩ := w2 t
    have r' : f_X12_wantWord k 113 1 (nI 8) = some (nI 0, k') := r
    exact orc_f ⟨k', by rw [u_X12_aWitness_j78_e]; simp (disch := first | assumption | omega | decide | ((repeat first | apply lyI | apply lyJ | apply lywI | apply lywJ | apply csI | apply csJ | apply cswI | apply cswJ); assumption)) only [SM, LI, ↓li_m1, nI_add, pk_mul, nn_sub, nn_m1, nn_div, nn_rem, nn_nz, nn_mod, nJ_l, lN_add, lN_mul, nn_tb1, nI_bt, nn_and, nn_or, nn_xor, nn_shr, nn_1shl, nn_31, il_p, il_n, it_p, it_n, ie_p, ie_n, ie_b, ie_b1, ie_m, ie_mm, it_m, it_m0, il_m0, bI_rZ, Option.bind_some, bd2_some, Nat.add_zero, Nat.zero_add, if_true, if_false, Bool.false_eq_true, eq_self, hI_R, hJ_R, ng_t, ng_e, r']; try (unfold u_X12_aWitness_j78_c1; simp (disch := first | assumption | omega | decide | ((repeat first | apply lyI | apply lyJ | apply lywI | apply lywJ | apply csI | apply csJ | apply cswI | apply cswJ); assumption)) only [SM, LI, ↓li_m1, nI_add, pk_mul, nn_sub, nn_m1, nn_div, nn_rem, nn_nz, nn_mod, nJ_l, lN_add, lN_mul, nn_tb1, nI_bt, nn_and, nn_or, nn_xor, nn_shr, nn_1shl, nn_31, il_p, il_n, it_p, it_n, ie_p, ie_n, ie_b, ie_b1, ie_m, ie_mm, it_m, it_m0, il_m0, bI_rZ, Option.bind_some, bd2_some, Nat.add_zero, Nat.zero_add, if_true, if_false, Bool.false_eq_true, eq_self, hI_R, hJ_R, ng_t, ng_e, r']), frr_13 d.1 f, l⟩
theorem cp_wit {k : aH} {T : Nat → Nat} {n i : Nat} (rc : RC k T n i) (t : tcI T n i = 14) : f_X12_casePart k 113 = bd2 (f_X12_aWitness k 113) fun r k' => f_X12_casePart_j74 k' 113 r := by
  have kl := rc.1
  have iw := r_cp0 rc
  rw [show iwI T n i = nI 3 by unfold iwI; rw [t]; rfl] at iw
  simp (disch := first | assumption | omega | decide | ((repeat first | apply lyI | apply lyJ | apply lywI | apply lywJ | apply csI | apply csJ | apply cswI | apply cswJ); assumption)) only [f_X12_casePart, SM, LI, ↓li_m1, nI_add, pk_mul, nn_sub, nn_m1, nn_div, nn_rem, nn_nz, nn_mod, nJ_l, lN_add, lN_mul, nn_tb1, nI_bt, nn_and, nn_or, nn_xor, nn_shr, nn_1shl, nn_31, il_p, il_n, it_p, it_n, ie_p, ie_n, ie_b, ie_b1, ie_m, ie_mm, it_m, it_m0, il_m0, bI_rZ, Option.bind_some, bd2_some, Nat.add_zero, Nat.zero_add, if_true, if_false, Bool.false_eq_true, eq_self, hI_R, hJ_R, ng_t, ng_e, iw]
theorem r_wit {k0 k : aH} {T : Nat → Nat} {n m i : Nat} {A : Nat → Nat} {V : Nat → List Nat} {Bv : Nat → Nat} {Q : Nat → Nat → Bool} (d : DR k0 k T n i A V Bv Q) (dv : DV A V Bv Q) (t : tcI T n i = 14) (hm : m ≤ 900) (ht : ∀ i, i ≤ m → 2 ≤ tcI T n i → i < m) (hi : i ≤ m) : ORc k0 T n (f_X12_casePart k 113) (wO T n i A V Bv Q) := by
  obtain ⟨wf, nv, a2, bb, zz, -, -, vf, sq⟩ := id dv
  obtain ⟨b0, b1, b2l, b2, b3, b4⟩ := wf_b wf
  have kl := d.2.1.1
  have q4 : k.2.1 114 1604 = nI (A 4) := d.2.2.2.1 4 (by decide) (by decide)
  rw [cp_wit d.2.1 t]
  unfold wO
  by_cases h4' : A 4 = 4
  · rw [if_pos h4']
    rw [h4'] at q4
    obtain ⟨k', r, f, l⟩ := r_fail d.2.1 6
    rw [fk_n (by omega)] at l
    exact orc_f ⟨k', by rw [u_X12_aWitness_e]; simp (disch := first | assumption | omega | decide | ((repeat first | apply lyI | apply lyJ | apply lywI | apply lywJ | apply csI | apply csJ | apply cswI | apply cswJ); assumption)) only [SM, LI, ↓li_m1, nI_add, pk_mul, nn_sub, nn_m1, nn_div, nn_rem, nn_nz, nn_mod, nJ_l, lN_add, lN_mul, nn_tb1, nI_bt, nn_and, nn_or, nn_xor, nn_shr, nn_1shl, nn_31, il_p, il_n, it_p, it_n, ie_p, ie_n, ie_b, ie_b1, ie_m, ie_mm, it_m, it_m0, il_m0, bI_rZ, Option.bind_some, bd2_some, Nat.add_zero, Nat.zero_add, if_true, if_false, Bool.false_eq_true, eq_self, hI_R, hJ_R, ng_t, ng_e, q4, r, rz0]; try (unfold u_X12_aWitness_c2; simp (disch := first | assumption | omega | decide | ((repeat first | apply lyI | apply lyJ | apply lywI | apply lywJ | apply csI | apply csJ | apply cswI | apply cswJ); assumption)) only [SM, LI, ↓li_m1, nI_add, pk_mul, nn_sub, nn_m1, nn_div, nn_rem, nn_nz, nn_mod, nJ_l, lN_add, lN_mul, nn_tb1, nI_bt, nn_and, nn_or, nn_xor, nn_shr, nn_1shl, nn_31, il_p, il_n, it_p, it_n, ie_p, ie_n, ie_b, ie_b1, ie_m, ie_mm, it_m, it_m0, il_m0, bI_rZ, Option.bind_some, bd2_some, Nat.add_zero, Nat.zero_add, if_true, if_false, Bool.false_eq_true, eq_self, hI_R, hJ_R, ng_t, ng_e, q4, r, rz0]); try (unfold u_X12_aWitness_c1; simp (disch := first | assumption | omega | decide | ((repeat first | apply lyI | apply lyJ | apply lywI | apply lywJ | apply csI | apply csJ | apply cswI | apply cswJ); assumption)) only [SM, LI, ↓li_m1, nI_add, pk_mul, nn_sub, nn_m1, nn_div, nn_rem, nn_nz, nn_mod, nJ_l, lN_add, lN_mul, nn_tb1, nI_bt, nn_and, nn_or, nn_xor, nn_shr, nn_1shl, nn_31, il_p, il_n, it_p, it_n, ie_p, ie_n, ie_b, ie_b1, ie_m, ie_mm, it_m, it_m0, il_m0, bI_rZ, Option.bind_some, bd2_some, Nat.add_zero, Nat.zero_add, if_true, if_false, Bool.false_eq_true, eq_self, hI_R, hJ_R, ng_t, ng_e, q4, r, rz0]), frr_13 d.1 f, l⟩
  rw [if_neg h4']
  have h4 : A 4 < 4 := by omega
  have n4 : ¬ nI (A 4) = nI 4 := d_ne (by omega) (by decide) h4'
  obtain ⟨k3, g3, f3, rc3⟩ := r_go d.2.1
  have d3 := dr_13 d f3 rc3
  have l3 := rc3.1
  have nrc : NRc k3 (cA A) := ⟨d3.2.2.2.1 0 (by decide) (by decide), d3.2.2.2.1 1 (by decide) (by decide), d3.2.2.2.1 3 (by decide) (by decide), d3.2.2.2.1 4 (by decide) (by decide)⟩
  obtain ⟨u1, u2⟩ := r_newName rc3 d3.2.2.1 nv nrc (s := 3) (by decide) h4
  cases hb : nwB T n (i + 1) (cA A) V with
  | false =>
    rw [if_pos rfl]
    obtain ⟨k', r, f, l⟩ := u2 hb
    have r' : f_X12_newName k3 113 (nI 40) (nI (A 4)) = some (nI 0, k') := r
    exact orc_f ⟨k', by rw [u_X12_aWitness_e]; simp (disch := first | assumption | omega | decide | ((repeat first | apply lyI | apply lyJ | apply lywI | apply lywJ | apply csI | apply csJ | apply cswI | apply cswJ); assumption)) only [SM, LI, ↓li_m1, nI_add, pk_mul, nn_sub, nn_m1, nn_div, nn_rem, nn_nz, nn_mod, nJ_l, lN_add, lN_mul, nn_tb1, nI_bt, nn_and, nn_or, nn_xor, nn_shr, nn_1shl, nn_31, il_p, il_n, it_p, it_n, ie_p, ie_n, ie_b, ie_b1, ie_m, ie_mm, it_m, it_m0, il_m0, bI_rZ, Option.bind_some, bd2_some, Nat.add_zero, Nat.zero_add, if_true, if_false, Bool.false_eq_true, eq_self, hI_R, hJ_R, ng_t, ng_e, q4, if_neg n4, g3, r']; try (unfold u_X12_aWitness_c2; simp (disch := first | assumption | omega | decide | ((repeat first | apply lyI | apply lyJ | apply lywI | apply lywJ | apply csI | apply csJ | apply cswI | apply cswJ); assumption)) only [SM, LI, ↓li_m1, nI_add, pk_mul, nn_sub, nn_m1, nn_div, nn_rem, nn_nz, nn_mod, nJ_l, lN_add, lN_mul, nn_tb1, nI_bt, nn_and, nn_or, nn_xor, nn_shr, nn_1shl, nn_31, il_p, il_n, it_p, it_n, ie_p, ie_n, ie_b, ie_b1, ie_m, ie_mm, it_m, it_m0, il_m0, bI_rZ, Option.bind_some, bd2_some, Nat.add_zero, Nat.zero_add, if_true, if_false, Bool.false_eq_true, eq_self, hI_R, hJ_R, ng_t, ng_e, q4, if_neg n4, g3, r']); try (unfold u_X12_aWitness_c1; simp (disch := first | assumption | omega | decide | ((repeat first | apply lyI | apply lyJ | apply lywI | apply lywJ | apply csI | apply csJ | apply cswI | apply cswJ); assumption)) only [SM, LI, ↓li_m1, nI_add, pk_mul, nn_sub, nn_m1, nn_div, nn_rem, nn_nz, nn_mod, nJ_l, lN_add, lN_mul, nn_tb1, nI_bt, nn_and, nn_or, nn_xor, nn_shr, nn_1shl, nn_31, il_p, il_n, it_p, it_n, ie_p, ie_n, ie_b, ie_b1, ie_m, ie_mm, it_m, it_m0, il_m0, bI_rZ, Option.bind_some, bd2_some, Nat.add_zero, Nat.zero_add, if_true, if_false, Bool.false_eq_true, eq_self, hI_R, hJ_R, ng_t, ng_e, q4, if_neg n4, g3, r']), frr_13 d3.1 f, l⟩
  | true =>
    rw [if_neg (by decide)]
    obtain ⟨k5, r5, f5, rc5, nr5⟩ := u1 hb
    have r5' : f_X12_newName k3 113 (nI 40) (nI (A 4)) = some (nI 1, k5) := r5
    have d5 := drm_nm (dr_m d3) f5 rc5 nr5
    have l5 := rc5.1
    rw [show i + 1 + 1 = i + 2 from rfl] at d5 rc5
    obtain ⟨m1', m2'⟩ := nw_6 hb
    have nv' : NV (upC (cA A) 3) (wV T n (i + 1) A V) := (nv_up nv (wd_vd m1') (s := 3) (by decide) h4 m2').1
    have z6 : ∀ k, k < 6 → A (76 + 6 * A 4 + k) = 0 := fun k hk => zz (A 4) k (Nat.le_refl _) h4 hk
    have iw := r_inW l5 rc5.2.1
    have i1 := ht i hi (by omega)
    have i2 := ht (i + 1) (by omega) (by omega)
    have q0 : k5.2.1 114 1600 = nI (A 0) := d5.2.2.2.1 0 (by decide) (by decide)
    by_cases t15 : tcI T n (i + 2) = 15
    · rw [if_pos t15]
      have i7 : iwI T n (i + 2) = nI 7 := (iw_e (q := 7) (by decide)).mpr t15
      rw [i7] at iw
      have i3 := ht (i + 2) (by omega) (by omega)
      have sv := r_sev (s := 0) (up := 16) (b := 4) (r := 76 + 6 * A 4 + 4) (by omega) (by omega) (by decide) (show upC (cA A) 3 0 ≤ 4 from b0) (by decide) b0 (z6 4 (by decide)) nv' hm ht (by decide) (by omega) d5
      have ib : 1600 + (76 + 6 * A 4 + 4) = 1676 + 6 * A 4 + 4 := by omega
      rw [ib, show i + 2 + 1 = i + 3 from rfl] at sv
      cases hn : tN T n (upC (cA A) 3) (wV T n (i + 1) A V) 0 16 901 0 (i + 3) 0 with
      | inl q =>
        obtain ⟨a, b⟩ := q
        rw [hn] at sv
        show ORc k0 T n _ (.inl (a, b))
        rcases sv with ⟨k', e, y1, y2⟩ | ⟨k', j2, S, e, d2, n3, ea, eb⟩
        · have e' : f_X12_several k5 113 (nI (1676 + 6 * A 4 + 4)) (nI 0) (nI (A 0)) = some (nI 0, k') := e
          exact orc_f ⟨k', by rw [u_X12_aWitness_e]; simp (disch := first | assumption | omega | decide | ((repeat first | apply lyI | apply lyJ | apply lywI | apply lywJ | apply csI | apply csJ | apply cswI | apply cswJ); assumption)) only [SM, LI, ↓li_m1, nI_add, pk_mul, nn_sub, nn_m1, nn_div, nn_rem, nn_nz, nn_mod, nJ_l, lN_add, lN_mul, nn_tb1, nI_bt, nn_and, nn_or, nn_xor, nn_shr, nn_1shl, nn_31, il_p, il_n, it_p, it_n, ie_p, ie_n, ie_b, ie_b1, ie_m, ie_mm, it_m, it_m0, il_m0, bI_rZ, Option.bind_some, bd2_some, Nat.add_zero, Nat.zero_add, if_true, if_false, Bool.false_eq_true, eq_self, hI_R, hJ_R, ng_t, ng_e, q4, if_neg n4, g3, r5', iw, q0, e']; try (unfold u_X12_aWitness_c2; simp (disch := first | assumption | omega | decide | ((repeat first | apply lyI | apply lyJ | apply lywI | apply lywJ | apply csI | apply csJ | apply cswI | apply cswJ); assumption)) only [SM, LI, ↓li_m1, nI_add, pk_mul, nn_sub, nn_m1, nn_div, nn_rem, nn_nz, nn_mod, nJ_l, lN_add, lN_mul, nn_tb1, nI_bt, nn_and, nn_or, nn_xor, nn_shr, nn_1shl, nn_31, il_p, il_n, it_p, it_n, ie_p, ie_n, ie_b, ie_b1, ie_m, ie_mm, it_m, it_m0, il_m0, bI_rZ, Option.bind_some, bd2_some, Nat.add_zero, Nat.zero_add, if_true, if_false, Bool.false_eq_true, eq_self, hI_R, hJ_R, ng_t, ng_e, q4, if_neg n4, g3, r5', iw, q0, e']); try (unfold u_X12_aWitness_c1; simp (disch := first | assumption | omega | decide | ((repeat first | apply lyI | apply lyJ | apply lywI | apply lywJ | apply csI | apply csJ | apply cswI | apply cswJ); assumption)) only [SM, LI, ↓li_m1, nI_add, pk_mul, nn_sub, nn_m1, nn_div, nn_rem, nn_nz, nn_mod, nJ_l, lN_add, lN_mul, nn_tb1, nI_bt, nn_and, nn_or, nn_xor, nn_shr, nn_1shl, nn_31, il_p, il_n, it_p, it_n, ie_p, ie_n, ie_b, ie_b1, ie_m, ie_mm, it_m, it_m0, il_m0, bI_rZ, Option.bind_some, bd2_some, Nat.add_zero, Nat.zero_add, if_true, if_false, Bool.false_eq_true, eq_self, hI_R, hJ_R, ng_t, ng_e, q4, if_neg n4, g3, r5', iw, q0, e']), y1, y2⟩
        · have e' : f_X12_several k5 113 (nI (1676 + 6 * A 4 + 4)) (nI 0) (nI (A 0)) = some (nI 1, k') := e
          have e2 : f_X12_aWitness k 113 = f_X12_aWitness_j78 k' 113 (nI (1676 + 6 * A 4)) := by rw [u_X12_aWitness_e]; simp (disch := first | assumption | omega | decide | ((repeat first | apply lyI | apply lyJ | apply lywI | apply lywJ | apply csI | apply csJ | apply cswI | apply cswJ); assumption)) only [SM, LI, ↓li_m1, nI_add, pk_mul, nn_sub, nn_m1, nn_div, nn_rem, nn_nz, nn_mod, nJ_l, lN_add, lN_mul, nn_tb1, nI_bt, nn_and, nn_or, nn_xor, nn_shr, nn_1shl, nn_31, il_p, il_n, it_p, it_n, ie_p, ie_n, ie_b, ie_b1, ie_m, ie_mm, it_m, it_m0, il_m0, bI_rZ, Option.bind_some, bd2_some, Nat.add_zero, Nat.zero_add, if_true, if_false, Bool.false_eq_true, eq_self, hI_R, hJ_R, ng_t, ng_e, q4, if_neg n4, g3, r5', iw, q0, e']; try (unfold u_X12_aWitness_c2; simp (disch := first | assumption | omega | decide | ((repeat first | apply lyI | apply lyJ | apply lywI | apply lywJ | apply csI | apply csJ | apply cswI | apply cswJ); assumption)) only [SM, LI, ↓li_m1, nI_add, pk_mul, nn_sub, nn_m1, nn_div, nn_rem, nn_nz, nn_mod, nJ_l, lN_add, lN_mul, nn_tb1, nI_bt, nn_and, nn_or, nn_xor, nn_shr, nn_1shl, nn_31, il_p, il_n, it_p, it_n, ie_p, ie_n, ie_b, ie_b1, ie_m, ie_mm, it_m, it_m0, il_m0, bI_rZ, Option.bind_some, bd2_some, Nat.add_zero, Nat.zero_add, if_true, if_false, Bool.false_eq_true, eq_self, hI_R, hJ_R, ng_t, ng_e, q4, if_neg n4, g3, r5', iw, q0, e']); try (unfold u_X12_aWitness_c1; simp (disch := first | assumption | omega | decide | ((repeat first | apply lyI | apply lyJ | apply lywI | apply lywJ | apply csI | apply csJ | apply cswI | apply cswJ); assumption)) only [SM, LI, ↓li_m1, nI_add, pk_mul, nn_sub, nn_m1, nn_div, nn_rem, nn_nz, nn_mod, nJ_l, lN_add, lN_mul, nn_tb1, nI_bt, nn_and, nn_or, nn_xor, nn_shr, nn_1shl, nn_31, il_p, il_n, it_p, it_n, ie_p, ie_n, ie_b, ie_b1, ie_m, ie_mm, it_m, it_m0, il_m0, bI_rZ, Option.bind_some, bd2_some, Nat.add_zero, Nat.zero_add, if_true, if_false, Bool.false_eq_true, eq_self, hI_R, hJ_R, ng_t, ng_e, q4, if_neg n4, g3, r5', iw, q0, e'])
          obtain ⟨w1, w2⟩ := r_wantW d2.2.1 (q := 8) (by decide)
          obtain ⟨k9, r9, f9, l9⟩ := w2 n3
          have r9' : f_X12_wantWord k' 113 1 (nI 8) = some (nI 0, k9) := r9
          rw [← ea, ← eb] at l9
          have l7 := d2.2.1.1
          exact orc_f ⟨k9, by rw [e2]; rw [u_X12_aWitness_j78_e]; simp (disch := first | assumption | omega | decide | ((repeat first | apply lyI | apply lyJ | apply lywI | apply lywJ | apply csI | apply csJ | apply cswI | apply cswJ); assumption)) only [SM, LI, ↓li_m1, nI_add, pk_mul, nn_sub, nn_m1, nn_div, nn_rem, nn_nz, nn_mod, nJ_l, lN_add, lN_mul, nn_tb1, nI_bt, nn_and, nn_or, nn_xor, nn_shr, nn_1shl, nn_31, il_p, il_n, it_p, it_n, ie_p, ie_n, ie_b, ie_b1, ie_m, ie_mm, it_m, it_m0, il_m0, bI_rZ, Option.bind_some, bd2_some, Nat.add_zero, Nat.zero_add, if_true, if_false, Bool.false_eq_true, eq_self, hI_R, hJ_R, ng_t, ng_e, r9']; try (unfold u_X12_aWitness_j78_c1; simp (disch := first | assumption | omega | decide | ((repeat first | apply lyI | apply lyJ | apply lywI | apply lywJ | apply csI | apply csJ | apply cswI | apply cswJ); assumption)) only [SM, LI, ↓li_m1, nI_add, pk_mul, nn_sub, nn_m1, nn_div, nn_rem, nn_nz, nn_mod, nJ_l, lN_add, lN_mul, nn_tb1, nI_bt, nn_and, nn_or, nn_xor, nn_shr, nn_1shl, nn_31, il_p, il_n, it_p, it_n, ie_p, ie_n, ie_b, ie_b1, ie_m, ie_mm, it_m, it_m0, il_m0, bI_rZ, Option.bind_some, bd2_some, Nat.add_zero, Nat.zero_add, if_true, if_false, Bool.false_eq_true, eq_self, hI_R, hJ_R, ng_t, ng_e, r9']), frr_13 d2.1 f9, l9⟩
      | inr q =>
        obtain ⟨j, K⟩ := q
        rw [hn] at sv
        obtain ⟨k', e, d2⟩ := sv
        obtain ⟨q1, q2, q3', -⟩ := tN_ok (b := 4) hm ht (show upC (cA A) 3 0 ≤ 4 from b0) 901 0 (i + 3) 0 (by omega) (by omega) (by decide) j K hn
        have e' : f_X12_several k5 113 (nI (1676 + 6 * A 4 + 4)) (nI 0) (nI (A 0)) = some (nI 1, k') := e
        have e2 : f_X12_aWitness k 113 = f_X12_aWitness_j78 k' 113 (nI (1676 + 6 * A 4)) := by rw [u_X12_aWitness_e]; simp (disch := first | assumption | omega | decide | ((repeat first | apply lyI | apply lyJ | apply lywI | apply lywJ | apply csI | apply csJ | apply cswI | apply cswJ); assumption)) only [SM, LI, ↓li_m1, nI_add, pk_mul, nn_sub, nn_m1, nn_div, nn_rem, nn_nz, nn_mod, nJ_l, lN_add, lN_mul, nn_tb1, nI_bt, nn_and, nn_or, nn_xor, nn_shr, nn_1shl, nn_31, il_p, il_n, it_p, it_n, ie_p, ie_n, ie_b, ie_b1, ie_m, ie_mm, it_m, it_m0, il_m0, bI_rZ, Option.bind_some, bd2_some, Nat.add_zero, Nat.zero_add, if_true, if_false, Bool.false_eq_true, eq_self, hI_R, hJ_R, ng_t, ng_e, q4, if_neg n4, g3, r5', iw, q0, e']; try (unfold u_X12_aWitness_c2; simp (disch := first | assumption | omega | decide | ((repeat first | apply lyI | apply lyJ | apply lywI | apply lywJ | apply csI | apply csJ | apply cswI | apply cswJ); assumption)) only [SM, LI, ↓li_m1, nI_add, pk_mul, nn_sub, nn_m1, nn_div, nn_rem, nn_nz, nn_mod, nJ_l, lN_add, lN_mul, nn_tb1, nI_bt, nn_and, nn_or, nn_xor, nn_shr, nn_1shl, nn_31, il_p, il_n, it_p, it_n, ie_p, ie_n, ie_b, ie_b1, ie_m, ie_mm, it_m, it_m0, il_m0, bI_rZ, Option.bind_some, bd2_some, Nat.add_zero, Nat.zero_add, if_true, if_false, Bool.false_eq_true, eq_self, hI_R, hJ_R, ng_t, ng_e, q4, if_neg n4, g3, r5', iw, q0, e']); try (unfold u_X12_aWitness_c1; simp (disch := first | assumption | omega | decide | ((repeat first | apply lyI | apply lyJ | apply lywI | apply lywJ | apply csI | apply csJ | apply cswI | apply cswJ); assumption)) only [SM, LI, ↓li_m1, nI_add, pk_mul, nn_sub, nn_m1, nn_div, nn_rem, nn_nz, nn_mod, nJ_l, lN_add, lN_mul, nn_tb1, nI_bt, nn_and, nn_or, nn_xor, nn_shr, nn_1shl, nn_31, il_p, il_n, it_p, it_n, ie_p, ie_n, ie_b, ie_b1, ie_m, ie_mm, it_m, it_m0, il_m0, bI_rZ, Option.bind_some, bd2_some, Nat.add_zero, Nat.zero_add, if_true, if_false, Bool.false_eq_true, eq_self, hI_R, hJ_R, ng_t, ng_e, q4, if_neg n4, g3, r5', iw, q0, e'])
        rw [wp_K z6] at d2
        rw [e2]
        exact r_w78 h4 b0 b3 nv' hm ht q2 d2
    · rw [if_neg t15]
      have n7 : ¬ iwI T n (i + 2) = nI 7 := fun e => t15 ((iw_e (q := 7) (by decide)).mp e)
      have e2 : f_X12_aWitness k 113 = f_X12_aWitness_j78 k5 113 (nI (1676 + 6 * A 4)) := by rw [u_X12_aWitness_e]; simp (disch := first | assumption | omega | decide | ((repeat first | apply lyI | apply lyJ | apply lywI | apply lywJ | apply csI | apply csJ | apply cswI | apply cswJ); assumption)) only [SM, LI, ↓li_m1, nI_add, pk_mul, nn_sub, nn_m1, nn_div, nn_rem, nn_nz, nn_mod, nJ_l, lN_add, lN_mul, nn_tb1, nI_bt, nn_and, nn_or, nn_xor, nn_shr, nn_1shl, nn_31, il_p, il_n, it_p, it_n, ie_p, ie_n, ie_b, ie_b1, ie_m, ie_mm, it_m, it_m0, il_m0, bI_rZ, Option.bind_some, bd2_some, Nat.add_zero, Nat.zero_add, if_true, if_false, Bool.false_eq_true, eq_self, hI_R, hJ_R, ng_t, ng_e, q4, if_neg n4, g3, r5', iw, if_neg n7]; try (unfold u_X12_aWitness_c2; simp (disch := first | assumption | omega | decide | ((repeat first | apply lyI | apply lyJ | apply lywI | apply lywJ | apply csI | apply csJ | apply cswI | apply cswJ); assumption)) only [SM, LI, ↓li_m1, nI_add, pk_mul, nn_sub, nn_m1, nn_div, nn_rem, nn_nz, nn_mod, nJ_l, lN_add, lN_mul, nn_tb1, nI_bt, nn_and, nn_or, nn_xor, nn_shr, nn_1shl, nn_31, il_p, il_n, it_p, it_n, ie_p, ie_n, ie_b, ie_b1, ie_m, ie_mm, it_m, it_m0, il_m0, bI_rZ, Option.bind_some, bd2_some, Nat.add_zero, Nat.zero_add, if_true, if_false, Bool.false_eq_true, eq_self, hI_R, hJ_R, ng_t, ng_e, q4, if_neg n4, g3, r5', iw, if_neg n7]); try (unfold u_X12_aWitness_c1; simp (disch := first | assumption | omega | decide | ((repeat first | apply lyI | apply lyJ | apply lywI | apply lywJ | apply csI | apply csJ | apply cswI | apply cswJ); assumption)) only [SM, LI, ↓li_m1, nI_add, pk_mul, nn_sub, nn_m1, nn_div, nn_rem, nn_nz, nn_mod, nJ_l, lN_add, lN_mul, nn_tb1, nI_bt, nn_and, nn_or, nn_xor, nn_shr, nn_1shl, nn_31, il_p, il_n, it_p, it_n, ie_p, ie_n, ie_b, ie_b1, ie_m, ie_mm, it_m, it_m0, il_m0, bI_rZ, Option.bind_some, bd2_some, Nat.add_zero, Nat.zero_add, if_true, if_false, Bool.false_eq_true, eq_self, hI_R, hJ_R, ng_t, ng_e, q4, if_neg n4, g3, r5', iw, if_neg n7])
      rw [e2]
      refine r_w78 h4 b0 b3 nv' hm ht (by omega) ?_
      rw [wp_0 z6]
      exact d5
theorem o_wit {h0 h : aH} {c : Nat} {T : Nat → Nat} {n m i : Nat} {A : Nat → Nat} {V : Nat → List Nat} {Bv : Nat → Nat} {Q : Nat → Nat → Bool} (d : DC h0 h c T n m i A V Bv Q) (dv : DV A V Bv Q) (t : tcI T n i = 14) : PO h0 c T n m i A V Bv Q (f_X2_readWitness h 42) (fun k => f_X12_casePart k 113) := by
  obtain ⟨hm, ht⟩ := lx_t d.2.1
  have hi := d.2.1.2.2.2
  exact ⟨wO T n i A V Bv Q, x_wit d dv t, fun i' r e => wO_lt hm ht hi t dv.1.1.1 dv.1.2.1 e, fun k0 k dr => r_wit dr dv t hm ht hi⟩
