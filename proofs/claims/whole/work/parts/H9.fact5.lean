/-! ===== cases: facts, both sides ===== -/
theorem r_fL {k0 : aH} {T : Nat → Nat} {n : Nat} {A : Nat → Nat} {Bv : Nat → Nat} {Q : Nat → Nat → Bool} (a18 : A 1 ≤ 18) (f4 : A 0 < 4) (h3 : A 3 = 0) : ∀ (gf x j F : Nat) (k : aH) (A' : Nat → Nat) (V : Nat → List Nat), x + gf = 7 → gf < F → FXa A A' x → NV (upC (cA A') 0) V → (x = 0 → tcI T n j = 6) → DRm k0 k T n j (gA A' (A 0) (A 1)) (upC (cA A') 0) V Bv Q → OFr k0 T n A Bv Q ((whileL F (fun q : Int32 × aH => f_X12_aFact_b113 113 (nI (A 0)) q.1 q.2) (nI x, k)).bind (fT (nI (A 0)))) (fL T n (A 0) gf x j A' V)
  | 0, x, j, F, k, A', V, hx, hF, fx, nv, t0, d => by
    exact absurd fx.1 (by
      intro e
      have b := nv.1 1 (by decide)
      have e1 : upC (cA A') 0 1 = A' 1 := rfl
      have e2 : nmN 1 = 24 := rfl
      omega)
  | gf + 1, x, j, F, k, A', V, hx, hF, fx, nv, t0, d => by
    obtain ⟨F', rfl⟩ := ex_s hF
    have rc := d.2.1
    have kl := rc.1
    have rx := rc.2.1
    have isn := r_isN kl rx
    have lo : ∀ y, y < 8 → y ≠ 1 → A' y = A y := fun y h1 h2 => fx.2.2 y h2 (by omega) (by omega)
    have f1 := fx.1
    by_cases h1 : x ≠ 0 ∧ tcI T n j = 3
    · rw [decide_eq_false (by omega), bI_f] at isn
      have e : f_X12_aFact_b113 113 (nI (A 0)) (nI x) k = some (.inr (.inr (.inr (.inr (nI x, k))))) := by simp (disch := first | assumption | omega | decide | ((repeat first | apply lyI | apply lyJ | apply lywI | apply lywJ | apply csI | apply csJ | apply cswI | apply cswJ); assumption)) only [f_X12_aFact_b113, SM, LI, ↓li_m1, nI_add, pk_mul, nn_sub, nn_m1, nn_div, nn_rem, nn_nz, nn_mod, nJ_l, lN_add, lN_mul, nn_tb1, nI_bt, nn_and, nn_or, nn_xor, nn_shr, nn_1shl, nn_31, il_p, il_n, it_p, it_n, ie_p, ie_n, ie_b, ie_b1, ie_m, ie_mm, it_m, it_m0, il_m0, bI_rZ, Option.bind_some, bd2_some, Nat.add_zero, Nat.zero_add, if_true, if_false, Bool.false_eq_true, eq_self, hI_R, hJ_R, ng_t, ng_e, isn]
      rw [wl_r e, show fL T n (A 0) (gf + 1) x j A' V = .inr (j, x, A', V) from if_pos h1]
      exact ⟨k, rfl, d⟩
    · rw [fL_s h1]
      by_cases t6 : tcI T n j = 6
      · rw [decide_eq_true t6, bI_t] at isn
        cases hb : nwB T n j (upC (cA A') 0) V with
        | false =>
          have tk := nw_f hb t6
          have g1 : ∀ y, y ≠ 0 → y ≠ 56 + A 0 → gA A' (A 0) (A 1) y = A' y := fun y h0 h5 => ga_n h0 h5
          have nrc : NRc k (upC (cA A') 0) := by
            refine ⟨?_, ?_, ?_, ?_⟩
            · have := d.2.2.2.1 0 (by decide) (by decide)
              rw [show gA A' (A 0) (A 1) 0 = A 0 + 1 from if_pos rfl, ← lo 0 (by decide) (by decide)] at this
              exact this
            · have := d.2.2.2.1 1 (by decide) (by decide)
              rw [g1 1 (by decide) (by omega)] at this
              exact this
            · have := d.2.2.2.1 3 (by decide) (by decide)
              rw [g1 3 (by decide) (by omega)] at this
              exact this
            · have := d.2.2.2.1 4 (by decide) (by decide)
              rw [g1 4 (by decide) (by omega)] at this
              exact this
          have isf := r_free kl rx t6 d.2.2.1 nv nrc
          rw [tk] at isf
          have isf' : f_X12_isFree k 113 = some (nI 0) := isf
          have e : f_X12_aFact_b113 113 (nI (A 0)) (nI x) k = some (.inr (.inl k)) := by simp (disch := first | assumption | omega | decide | ((repeat first | apply lyI | apply lyJ | apply lywI | apply lywJ | apply csI | apply csJ | apply cswI | apply cswJ); assumption)) only [f_X12_aFact_b113, SM, LI, ↓li_m1, nI_add, pk_mul, nn_sub, nn_m1, nn_div, nn_rem, nn_nz, nn_mod, nJ_l, lN_add, lN_mul, nn_tb1, nI_bt, nn_and, nn_or, nn_xor, nn_shr, nn_1shl, nn_31, il_p, il_n, it_p, it_n, ie_p, ie_n, ie_b, ie_b1, ie_m, ie_mm, it_m, it_m0, il_m0, bI_rZ, Option.bind_some, bd2_some, Nat.add_zero, Nat.zero_add, if_true, if_false, Bool.false_eq_true, eq_self, hI_R, hJ_R, ng_t, ng_e, isn, isf']
          have ev : vO T n (A 0) x j A' V = .inl (nmF T n j, frI T n j) := if_pos hb
          obtain ⟨k', r, f, l⟩ := r_fail rc 3
          have nm : nmF T n j = fkN T n j 3 := by
            unfold nmF
            rw [if_pos t6]
          rw [wl_r e, ev]
          show OFr k0 T n A Bv Q (fT (nI (A 0)) (.inl k)) (.inl (nmF T n j, frI T n j))
          rw [nm]
          exact ⟨k', by simp (disch := first | assumption | omega | decide | ((repeat first | apply lyI | apply lyJ | apply lywI | apply lywJ | apply csI | apply csJ | apply cswI | apply cswJ); assumption)) only [fT, SM, LI, ↓li_m1, nI_add, pk_mul, nn_sub, nn_m1, nn_div, nn_rem, nn_nz, nn_mod, nJ_l, lN_add, lN_mul, nn_tb1, nI_bt, nn_and, nn_or, nn_xor, nn_shr, nn_1shl, nn_31, il_p, il_n, it_p, it_n, ie_p, ie_n, ie_b, ie_b1, ie_m, ie_mm, it_m, it_m0, il_m0, bI_rZ, Option.bind_some, bd2_some, Nat.add_zero, Nat.zero_add, if_true, if_false, Bool.false_eq_true, eq_self, hI_R, hJ_R, ng_t, ng_e, r, rz0], frr_13 d.1 f, l⟩
        | true =>
          by_cases e6 : x = 6
          · have ev : vO T n (A 0) x j A' V = .inl (6, frI T n j) := by
              unfold vO
              rw [if_neg (by rw [hb]; decide), if_pos e6]
            obtain ⟨h6a, tk⟩ := nw_6 hb
            have g1 : ∀ y, y ≠ 0 → y ≠ 56 + A 0 → gA A' (A 0) (A 1) y = A' y := fun y h0 h5 => ga_n h0 h5
            have nrc : NRc k (upC (cA A') 0) := by
              refine ⟨?_, ?_, ?_, ?_⟩
              · have := d.2.2.2.1 0 (by decide) (by decide)
                rw [show gA A' (A 0) (A 1) 0 = A 0 + 1 from if_pos rfl, ← lo 0 (by decide) (by decide)] at this
                exact this
              · have := d.2.2.2.1 1 (by decide) (by decide)
                rw [g1 1 (by decide) (by omega)] at this
                exact this
              · have := d.2.2.2.1 3 (by decide) (by decide)
                rw [g1 3 (by decide) (by omega)] at this
                exact this
              · have := d.2.2.2.1 4 (by decide) (by decide)
                rw [g1 4 (by decide) (by omega)] at this
                exact this
            have isf := r_free kl rx t6 d.2.2.1 nv nrc
            rw [tk] at isf
            have isf' : f_X12_isFree k 113 = some (nI 1) := isf
            have e : f_X12_aFact_b113 113 (nI (A 0)) (nI x) k = some (.inr (.inr (.inl k))) := by
              rw [e6]
              simp (disch := first | assumption | omega | decide | ((repeat first | apply lyI | apply lyJ | apply lywI | apply lywJ | apply csI | apply csJ | apply cswI | apply cswJ); assumption)) only [f_X12_aFact_b113, SM, LI, ↓li_m1, nI_add, pk_mul, nn_sub, nn_m1, nn_div, nn_rem, nn_nz, nn_mod, nJ_l, lN_add, lN_mul, nn_tb1, nI_bt, nn_and, nn_or, nn_xor, nn_shr, nn_1shl, nn_31, il_p, il_n, it_p, it_n, ie_p, ie_n, ie_b, ie_b1, ie_m, ie_mm, it_m, it_m0, il_m0, bI_rZ, Option.bind_some, bd2_some, Nat.add_zero, Nat.zero_add, if_true, if_false, Bool.false_eq_true, eq_self, hI_R, hJ_R, ng_t, ng_e, isn, isf']
            obtain ⟨k', r, f, l⟩ := r_fail rc 6
            rw [fk_n (by omega)] at l
            rw [wl_r e, ev]
            show OFr k0 T n A Bv Q (fT (nI (A 0)) (.inr (.inl k))) (.inl (6, frI T n j))
            exact ⟨k', by simp (disch := first | assumption | omega | decide | ((repeat first | apply lyI | apply lyJ | apply lywI | apply lywJ | apply csI | apply csJ | apply cswI | apply cswJ); assumption)) only [fT, SM, LI, ↓li_m1, nI_add, pk_mul, nn_sub, nn_m1, nn_div, nn_rem, nn_nz, nn_mod, nJ_l, lN_add, lN_mul, nn_tb1, nI_bt, nn_and, nn_or, nn_xor, nn_shr, nn_1shl, nn_31, il_p, il_n, it_p, it_n, ie_p, ie_n, ie_b, ie_b1, ie_m, ie_mm, it_m, it_m0, il_m0, bI_rZ, Option.bind_some, bd2_some, Nat.add_zero, Nat.zero_add, if_true, if_false, Bool.false_eq_true, eq_self, hI_R, hJ_R, ng_t, ng_e, r, rz0], frr_13 d.1 f, l⟩
          · obtain ⟨v1, v2⟩ := r_val (x := x) d ((lo 3 (by decide) (by decide)).trans h3) (lo 0 (by decide) (by decide)) (by omega) f4 (by omega) nv hb
            cases hv : vO T n (A 0) x j A' V with
            | inl q =>
              obtain ⟨a, b⟩ := q
              obtain ⟨k', e, y1, y2⟩ := v1 a b hv
              rw [wl_r e]
              exact ⟨k', rfl, y1, y2⟩
            | inr q =>
              obtain ⟨j', A1, V1⟩ := q
              obtain ⟨k', e, y1⟩ := v2 j' A1 V1 hv
              rw [wl_l e]
              have st : FXa A A1 (x + 1) ∧ NV (upC (cA A1) 0) V1 := by
                unfold vO at hv
                rw [if_neg (by rw [hb]; decide), if_neg e6] at hv
                by_cases h2 : tcI T n (j + 1) = 2
                · rw [if_pos h2] at hv
                  by_cases h9 : 1 ≤ nuI T n (j + 1) ∧ nuI T n (j + 1) ≤ 9
                  · rw [if_pos h9] at hv
                    cases hv
                    exact ⟨fx_s (by omega) fx h9.1 h9.2, nv_1 nv (by omega) hb⟩
                  · rw [if_neg h9] at hv; cases hv
                · rw [if_neg h2] at hv
                  cases hv
                  exact ⟨fx_s (by omega) fx (by decide) (by decide), nv_1 nv (by omega) hb⟩
              exact r_fL a18 f4 h3 gf (x + 1) j' F' k' A1 V1 (by omega) (by omega) st.1 st.2 (fun e => absurd e (by omega)) y1
      · have x0 : x ≠ 0 := fun e => t6 (t0 e)
        have t3 : tcI T n j ≠ 3 := fun e => h1 ⟨x0, e⟩
        rw [decide_eq_false t6, bI_f] at isn
        have hb : nwB T n j (upC (cA A') 0) V = false := by
          unfold nwB
          rw [decide_eq_false t6, Bool.false_and]
        have ev : vO T n (A 0) x j A' V = .inl (nmF T n j, frI T n j) := if_pos hb
        have e : f_X12_aFact_b113 113 (nI (A 0)) (nI x) k = some (.inr (.inr (.inr (.inr (nI x, k))))) := by simp (disch := first | assumption | omega | decide | ((repeat first | apply lyI | apply lyJ | apply lywI | apply lywJ | apply csI | apply csJ | apply cswI | apply cswJ); assumption)) only [f_X12_aFact_b113, SM, LI, ↓li_m1, nI_add, pk_mul, nn_sub, nn_m1, nn_div, nn_rem, nn_nz, nn_mod, nJ_l, lN_add, lN_mul, nn_tb1, nI_bt, nn_and, nn_or, nn_xor, nn_shr, nn_1shl, nn_31, il_p, il_n, it_p, it_n, ie_p, ie_n, ie_b, ie_b1, ie_m, ie_mm, it_m, it_m0, il_m0, bI_rZ, Option.bind_some, bd2_some, Nat.add_zero, Nat.zero_add, if_true, if_false, Bool.false_eq_true, eq_self, hI_R, hJ_R, ng_t, ng_e, isn]
        have sg := r_sign kl rx (t := 3) (c := 59) (Or.inl ⟨rfl, rfl⟩)
        rw [decide_eq_false t3, bI_f] at sg
        obtain ⟨k', r, f, l⟩ := r_fail rc 2
        have nm : nmF T n j = fkN T n j 2 := by
          unfold nmF
          rw [if_neg t6]
        rw [wl_r e, ev]
        show OFr k0 T n A Bv Q (fT2 (nI (A 0)) (nI x) k) (.inl (nmF T n j, frI T n j))
        rw [nm]
        exact ⟨k', by simp (disch := first | assumption | omega | decide | ((repeat first | apply lyI | apply lyJ | apply lywI | apply lywJ | apply csI | apply csJ | apply cswI | apply cswJ); assumption)) only [fT2, SM, LI, ↓li_m1, nI_add, pk_mul, nn_sub, nn_m1, nn_div, nn_rem, nn_nz, nn_mod, nJ_l, lN_add, lN_mul, nn_tb1, nI_bt, nn_and, nn_or, nn_xor, nn_shr, nn_1shl, nn_31, il_p, il_n, it_p, it_n, ie_p, ie_n, ie_b, ie_b1, ie_m, ie_mm, it_m, it_m0, il_m0, bI_rZ, Option.bind_some, bd2_some, Nat.add_zero, Nat.zero_add, if_true, if_false, Bool.false_eq_true, eq_self, hI_R, hJ_R, ng_t, ng_e, sg, r, rz0], frr_13 d.1 f, l⟩
theorem cp_fact {k : aH} {T : Nat → Nat} {n i : Nat} (rc : RC k T n i) (t : tcI T n i = 8) : f_X12_casePart k 113 = bd2 (f_X12_aFact k 113) fun r k' => f_X12_casePart_j74 k' 113 r := by
  have kl := rc.1
  have iw := r_cp0 rc
  rw [show iwI T n i = nI 0 by unfold iwI; rw [t]; rfl] at iw
  simp (disch := first | assumption | omega | decide | ((repeat first | apply lyI | apply lyJ | apply lywI | apply lywJ | apply csI | apply csJ | apply cswI | apply cswJ); assumption)) only [f_X12_casePart, SM, LI, ↓li_m1, nI_add, pk_mul, nn_sub, nn_m1, nn_div, nn_rem, nn_nz, nn_mod, nJ_l, lN_add, lN_mul, nn_tb1, nI_bt, nn_and, nn_or, nn_xor, nn_shr, nn_1shl, nn_31, il_p, il_n, it_p, it_n, ie_p, ie_n, ie_b, ie_b1, ie_m, ie_mm, it_m, it_m0, il_m0, bI_rZ, Option.bind_some, bd2_some, Nat.add_zero, Nat.zero_add, if_true, if_false, Bool.false_eq_true, eq_self, hI_R, hJ_R, ng_t, ng_e, iw]
theorem r_fact {k0 k : aH} {T : Nat → Nat} {n i : Nat} {A : Nat → Nat} {V : Nat → List Nat} {Bv : Nat → Nat} {Q : Nat → Nat → Bool} (d : DR k0 k T n i A V Bv Q) (dv : DV A V Bv Q) (t : tcI T n i = 8) : ORc k0 T n (f_X12_casePart k 113) (fO T n i A V Bv Q) := by
  obtain ⟨wf, nv, a2, bb, -, -, -, vf, sq⟩ := id dv
  obtain ⟨b0, b1, b2l, b2, b3, b4⟩ := wf_b wf
  have s6 := sq_6 sq wf
  have kl := d.2.1.1
  have q0 : k.2.1 114 1600 = nI (A 0) := d.2.2.2.1 0 (by decide) (by decide)
  have q3 : k.2.1 114 1603 = nI (A 3) := d.2.2.2.1 3 (by decide) (by decide)
  rw [cp_fact d.2.1 t]
  unfold fO
  by_cases h0 : A 0 = 4
  · rw [if_pos h0]
    rw [h0] at q0
    obtain ⟨k', r, f, l⟩ := r_fail d.2.1 6
    rw [fk_n (by omega)] at l
    have e : f_X12_aFact k 113 = some (nI 0, k') := by simp (disch := first | assumption | omega | decide | ((repeat first | apply lyI | apply lyJ | apply lywI | apply lywJ | apply csI | apply csJ | apply cswI | apply cswJ); assumption)) only [f_X12_aFact, SM, LI, ↓li_m1, nI_add, pk_mul, nn_sub, nn_m1, nn_div, nn_rem, nn_nz, nn_mod, nJ_l, lN_add, lN_mul, nn_tb1, nI_bt, nn_and, nn_or, nn_xor, nn_shr, nn_1shl, nn_31, il_p, il_n, it_p, it_n, ie_p, ie_n, ie_b, ie_b1, ie_m, ie_mm, it_m, it_m0, il_m0, bI_rZ, Option.bind_some, bd2_some, Nat.add_zero, Nat.zero_add, if_true, if_false, Bool.false_eq_true, eq_self, hI_R, hJ_R, ng_t, ng_e, q0, r, rz0]
    exact dr_fl d f l (by rw [e, bd2_some, j74_0])
  rw [if_neg h0]
  have n4 : ¬ nI (A 0) = nI 4 := d_ne (by omega) (by decide) h0
  by_cases h3 : 0 < A 3
  · rw [if_pos h3]
    obtain ⟨k', r, f, l⟩ := r_fail d.2.1 7
    rw [fk_n (by omega)] at l
    have e : f_X12_aFact k 113 = some (nI 0, k') := by simp (disch := first | assumption | omega | decide | ((repeat first | apply lyI | apply lyJ | apply lywI | apply lywJ | apply csI | apply csJ | apply cswI | apply cswJ); assumption)) only [f_X12_aFact, SM, LI, ↓li_m1, nI_add, pk_mul, nn_sub, nn_m1, nn_div, nn_rem, nn_nz, nn_mod, nJ_l, lN_add, lN_mul, nn_tb1, nI_bt, nn_and, nn_or, nn_xor, nn_shr, nn_1shl, nn_31, il_p, il_n, it_p, it_n, ie_p, ie_n, ie_b, ie_b1, ie_m, ie_mm, it_m, it_m0, il_m0, bI_rZ, Option.bind_some, bd2_some, Nat.add_zero, Nat.zero_add, if_true, if_false, Bool.false_eq_true, eq_self, hI_R, hJ_R, ng_t, ng_e, q0, if_neg n4, q3, r, rz0]
    exact dr_fl d f l (by rw [e, bd2_some, j74_0])
  rw [if_neg h3]
  have z3 : A 3 = 0 := by omega
  rw [z3] at q3
  obtain ⟨k3, g3, f3, rc3⟩ := r_go d.2.1
  have d3 := dr_13 d f3 rc3
  have l3 := rc3.1
  have nrc : NRc k3 (cA A) := ⟨d3.2.2.2.1 0 (by decide) (by decide), d3.2.2.2.1 1 (by decide) (by decide), d3.2.2.2.1 3 (by decide) (by decide), d3.2.2.2.1 4 (by decide) (by decide)⟩
  obtain ⟨u1, u2⟩ := r_newName rc3 d3.2.2.1 nv nrc (s := 0) (by decide) (show A 0 < 4 by omega)
  cases hb : nwB T n (i + 1) (cA A) V with
  | false =>
    rw [if_pos rfl]
    obtain ⟨k', r, f, l⟩ := u2 hb
    have r' : f_X12_newName k3 113 (nI 0) (nI (A 0)) = some (nI 0, k') := r
    have e : f_X12_aFact k 113 = some (nI 0, k') := by simp (disch := first | assumption | omega | decide | ((repeat first | apply lyI | apply lyJ | apply lywI | apply lywJ | apply csI | apply csJ | apply cswI | apply cswJ); assumption)) only [f_X12_aFact, SM, LI, ↓li_m1, nI_add, pk_mul, nn_sub, nn_m1, nn_div, nn_rem, nn_nz, nn_mod, nJ_l, lN_add, lN_mul, nn_tb1, nI_bt, nn_and, nn_or, nn_xor, nn_shr, nn_1shl, nn_31, il_p, il_n, it_p, it_n, ie_p, ie_n, ie_b, ie_b1, ie_m, ie_mm, it_m, it_m0, il_m0, bI_rZ, Option.bind_some, bd2_some, Nat.add_zero, Nat.zero_add, if_true, if_false, Bool.false_eq_true, eq_self, hI_R, hJ_R, ng_t, ng_e, q0, if_neg n4, q3, g3, r']
    exact dr_fl d3 f l (by rw [e, bd2_some, j74_0])
  | true =>
    rw [if_neg (by decide)]
    obtain ⟨k5, r5, f5, rc5, nr5⟩ := u1 hb
    have r5' : f_X12_newName k3 113 (nI 0) (nI (A 0)) = some (nI 1, k5) := r5
    have d5 := drm_nm (dr_m d3) f5 rc5 nr5
    have l5 := rc5.1
    rw [show i + 1 + 1 = i + 2 from rfl] at d5
    have q0' : k5.2.1 114 1600 = nI (A 0) := d5.2.2.2.1 0 (by decide) (by decide)
    have d6 := drm_at (A' := upN A 0 (A 0 + 1)) d5 (j := 0) (x := A 0 + 1) (by decide) (by decide) up_e (fun y hy => up_n hy) (fun h => absurd h (by rw [up_n (by decide)]; omega))
    rw [show 1600 + 0 = 1600 from rfl] at d6
    have rc6 := d6.2.1
    have l6 : LAY (hI k5 114 1600 (nI (A 0 + 1))) := l5
    obtain ⟨w1, w2⟩ := r_wantW rc6 (q := 1) (by decide)
    by_cases t6 : tcI T n (i + 2) = 9
    · rw [if_neg (fun e => e t6)]
      obtain ⟨k7, r7, f7, rc7⟩ := w1 t6
      have r7' : f_X12_wantWord (hI k5 114 1600 (nI (A 0 + 1))) 113 1 (nI 4) = some (nI 1, k7) := r7
      have d7 := drm_13 d6 f7 rc7
      have l7 := rc7.1
      have isn := r_isN l7 rc7.2.1
      rw [show i + 2 + 1 = i + 3 from rfl] at d7 rc7 isn
      obtain ⟨m1', m2'⟩ := nw_6 hb
      have nv0 : NV (upC (cA A) 0) (upV V (nbN 0 + cA A 0) (wdI T n (i + 1))) := (nv_up nv (wd_vd m1') (s := 0) (by decide) (show A 0 < 4 by omega) m2').1
      by_cases t7 : tcI T n (i + 3) = 6
      · rw [decide_eq_true t7, bI_t] at isn
        have q1 : k7.2.1 114 1601 = nI (A 1) := by
          have := d7.2.2.2.1 1 (by decide) (by decide)
          rw [up_n (by decide)] at this
          exact this
        have d8 := drm_at (A' := upN (upN A 0 (A 0 + 1)) (56 + A 0) (A 1)) d7 (j := 56 + A 0) (x := A 1) (by omega) (by omega) up_e (fun y hy => up_n hy) (fun h => absurd h (by rw [up_n (by omega), up_n (by decide)]; omega))
        rw [ga_0, show 1600 + (56 + A 0) = 1656 + A 0 by omega] at d8
        have l8 : LAY (hI k7 114 (1656 + A 0) (nI (A 1))) := l7
        have lp := r_fL (k0 := k0) (T := T) (n := n) (Bv := Bv) (Q := Q) (by omega) (by omega) z3 7 0 (i + 3) wN _ A _ rfl (by rw [wN_e]; omega) fx_0 nv0 (fun _ => t7) d8
        have e : f_X12_aFact k 113 = (f_X12_aFact_l113 113 (nI (A 0)) (nI 0) (hI k7 114 (1656 + A 0) (nI (A 1)))).bind (fT (nI (A 0))) := by
          have er : ∀ z, fT (nI (A 0)) z = (match z with
            | .inl h40 => (ck h40 12 113).bind fun _ => bd2 (f_X12_fails h40 113 (3 : Int32)) fun t41 h42 => (rZ t41).bind fun t43 => some (t43, h42)
            | .inr (.inl h44) => (ck h44 12 113).bind fun _ => bd2 (f_X12_fails h44 113 (6 : Int32)) fun t45 h46 => (rZ t45).bind fun t47 => some (t47, h46)
            | .inr (.inr (.inl h48)) => some ((0 : Int32), h48)
            | .inr (.inr (.inr (t49, h50))) => fT2 (nI (A 0)) t49 h50) := fun z => rfl
          have st : f_X12_aFact k 113 = f_X12_aFact k 113 := rfl
          cases hz : f_X12_aFact_l113 113 (nI (A 0)) (nI 0) (hI k7 114 (1656 + A 0) (nI (A 1))) with
          | none => simp (disch := first | assumption | omega | decide | ((repeat first | apply lyI | apply lyJ | apply lywI | apply lywJ | apply csI | apply csJ | apply cswI | apply cswJ); assumption)) only [f_X12_aFact, SM, rI_eq, rI_ne, rI_nk, rJ_eq, rJ_ne, rJ_nk, rI_J, rJ_I, LI, ↓li_m1, nI_add, pk_mul, nn_sub, nn_m1, nn_div, nn_rem, nn_nz, nn_mod, nJ_l, lN_add, lN_mul, nn_tb1, nI_bt, nn_and, nn_or, nn_xor, nn_shr, nn_1shl, nn_31, il_p, il_n, it_p, it_n, ie_p, ie_n, ie_b, ie_b1, ie_m, ie_mm, it_m, it_m0, il_m0, bI_rZ, Option.bind_some, bd2_some, Nat.add_zero, Nat.zero_add, if_true, if_false, Bool.false_eq_true, eq_self, hI_R, hJ_R, ng_t, ng_e, q0, if_neg n4, q3, g3, r5', q0', r7', isn, q1, hz, Option.bind_none]
          | some z =>
            rw [Option.bind_some]
            rcases z with z | z | z | ⟨z1, z⟩ <;> simp (disch := first | assumption | omega | decide | ((repeat first | apply lyI | apply lyJ | apply lywI | apply lywJ | apply csI | apply csJ | apply cswI | apply cswJ); assumption)) only [f_X12_aFact, fT, fT2, SM, rI_eq, rI_ne, rI_nk, rJ_eq, rJ_ne, rJ_nk, rI_J, rJ_I, LI, ↓li_m1, nI_add, pk_mul, nn_sub, nn_m1, nn_div, nn_rem, nn_nz, nn_mod, nJ_l, lN_add, lN_mul, nn_tb1, nI_bt, nn_and, nn_or, nn_xor, nn_shr, nn_1shl, nn_31, il_p, il_n, it_p, it_n, ie_p, ie_n, ie_b, ie_b1, ie_m, ie_mm, it_m, it_m0, il_m0, bI_rZ, Option.bind_some, bd2_some, Nat.add_zero, Nat.zero_add, if_true, if_false, Bool.false_eq_true, eq_self, hI_R, hJ_R, ng_t, ng_e, q0, if_neg n4, q3, g3, r5', q0', r7', isn, q1, hz]
        cases hf : fL T n (A 0) 7 0 (i + 3) A (upV V (nbN 0 + cA A 0) (wdI T n (i + 1))) with
        | inl q =>
          obtain ⟨a, b⟩ := q
          rw [hf] at lp
          obtain ⟨k', y1, y2, y3⟩ := lp
          have e' : f_X12_aFact k 113 = some (nI 0, k') := e.trans y1
          exact ⟨k', by rw [e', bd2_some, j74_0], y2, y3⟩
        | inr q =>
          obtain ⟨j, x, A', V'⟩ := q
          rw [hf] at lp
          obtain ⟨k9, y1, d9⟩ := lp
          have e' : f_X12_aFact k 113 = fT2 (nI (A 0)) (nI x) k9 := e.trans y1
          obtain ⟨o1, o2, o3, o4, o5⟩ := fl_ok (by omega) 7 0 (i + 3) A _ rfl fx_0 nv0 j x A' V' hf
          obtain ⟨p1, p2, p3⟩ := id o3
          have lo : ∀ y, y < 8 → y ≠ 1 → A' y = A y := fun y h1 h2 => p3 y h2 (by omega) (by omega)
          have rc9 := d9.2.1
          have l9 := rc9.1
          have sg := r_sign l9 rc9.2.1 (t := 3) (c := 59) (Or.inl ⟨rfl, rfl⟩)
          rw [decide_eq_true o5, bI_t] at sg
          have q2 : k9.2.1 114 1602 = nI (A 2) := by
            have := d9.2.2.2.1 2 (by decide) (by decide)
            rw [ga_n (by decide) (by omega), lo 2 (by decide) (by decide)] at this
            exact this
          show ORc k0 T n _ (if x < 2 ∨ 256 < A 2 * x then .inl (8, frI T n j) else .inr (j + 1, cF A' (A 0) (A 1) x, V', Bv, Q))
          have mb : A 2 * x ≤ 256 * 6 := Nat.mul_le_mul b2 o2
          by_cases h8 : x < 2 ∨ 256 < A 2 * x
          · rw [if_pos h8]
            obtain ⟨k', r, f, l⟩ := r_fail rc9 8
            rw [fk_n (by omega)] at l
            have e2 : fT2 (nI (A 0)) (nI x) k9 = some (nI 0, k') := by
              by_cases h2 : x < 2
              · simp (disch := first | assumption | omega | decide | ((repeat first | apply lyI | apply lyJ | apply lywI | apply lywJ | apply csI | apply csJ | apply cswI | apply cswJ); assumption)) only [fT2, f_X12_aFact_j276, SM, LI, ↓li_m1, nI_add, pk_mul, nn_sub, nn_m1, nn_div, nn_rem, nn_nz, nn_mod, nJ_l, lN_add, lN_mul, nn_tb1, nI_bt, nn_and, nn_or, nn_xor, nn_shr, nn_1shl, nn_31, il_p, il_n, it_p, it_n, ie_p, ie_n, ie_b, ie_b1, ie_m, ie_mm, it_m, it_m0, il_m0, bI_rZ, Option.bind_some, bd2_some, Nat.add_zero, Nat.zero_add, if_true, if_false, Bool.false_eq_true, eq_self, hI_R, hJ_R, ng_t, ng_e, sg, r, rz0]
              · have h9 : 256 < A 2 * x := by omega
                simp (disch := first | assumption | omega | decide | ((repeat first | apply lyI | apply lyJ | apply lywI | apply lywJ | apply csI | apply csJ | apply cswI | apply cswJ); assumption)) only [fT2, f_X12_aFact_j276, SM, LI, ↓li_m1, nI_add, pk_mul, nn_sub, nn_m1, nn_div, nn_rem, nn_nz, nn_mod, nJ_l, lN_add, lN_mul, nn_tb1, nI_bt, nn_and, nn_or, nn_xor, nn_shr, nn_1shl, nn_31, il_p, il_n, it_p, it_n, ie_p, ie_n, ie_b, ie_b1, ie_m, ie_mm, it_m, it_m0, il_m0, bI_rZ, Option.bind_some, bd2_some, Nat.add_zero, Nat.zero_add, if_true, if_false, Bool.false_eq_true, eq_self, hI_R, hJ_R, ng_t, ng_e, sg, q2, r, rz0]
            exact drm_fl d9 f l (by rw [e', e2, bd2_some, j74_0])
          · rw [if_neg h8]
            have z3' : gA A' (A 0) (A 1) 3 = 0 := by rw [ga_n (by decide) (by omega), lo 3 (by decide) (by decide), z3]
            have d10 := drm_at (A' := upN (gA A' (A 0) (A 1)) (60 + A 0) x) d9 (j := 60 + A 0) (x := x) (by omega) (by omega) up_e (fun y hy => up_n hy) (fun h => absurd h (by rw [up_n (by omega), z3']; omega))
            have d11 := drm_at (A' := upN (upN (gA A' (A 0) (A 1)) (60 + A 0) x) 2 (A' 2 * x)) d10 (j := 2) (x := A' 2 * x) (by decide) (by decide) up_e (fun y hy => up_n hy) (fun h => absurd h (by rw [up_n (by omega), up_n (by omega), z3']; omega))
            rw [ga_c, ← cf_cA (a := A 1) (x := x) (lo 0 (by decide) (by decide)), lo 2 (by decide) (by decide)] at d11
            rw [show 1600 + (60 + A 0) = 1660 + A 0 by omega, show 1600 + 2 = 1602 from rfl] at d11
            have q2' : (hI k9 114 (1660 + A 0) (nI x)).2.1 114 1602 = nI (A 2) := by
              rw [rI_nk (by omega)]
              exact q2
            have e2 : fT2 (nI (A 0)) (nI x) k9 = some (nI 1, hI (hI k9 114 (1660 + A 0) (nI x)) 114 1602 (nI (A 2 * x))) := by
              simp (disch := first | assumption | omega | decide | ((repeat first | apply lyI | apply lyJ | apply lywI | apply lywJ | apply csI | apply csJ | apply cswI | apply cswJ); assumption)) only [fT2, SM, LI, ↓li_m1, nI_add, pk_mul, nn_sub, nn_m1, nn_div, nn_rem, nn_nz, nn_mod, nJ_l, lN_add, lN_mul, nn_tb1, nI_bt, nn_and, nn_or, nn_xor, nn_shr, nn_1shl, nn_31, il_p, il_n, it_p, it_n, ie_p, ie_n, ie_b, ie_b1, ie_m, ie_mm, it_m, it_m0, il_m0, bI_rZ, Option.bind_some, bd2_some, Nat.add_zero, Nat.zero_add, if_true, if_false, Bool.false_eq_true, eq_self, hI_R, hJ_R, ng_t, ng_e, sg, q2, q2']
            have rs := r_smD (k := hI (hI k9 114 (1660 + A 0) (nI x)) 114 1602 (nI (A 2 * x))) d11
            rw [e', e2, bd2_some]
            rw [show smD T n j (cF A' (A 0) (A 1) x) V' Bv Q = .inr (j + 1, cF A' (A 0) (A 1) x, V', Bv, Q) from if_pos o5] at rs
            exact rs
      · rw [decide_eq_false t7, bI_f] at isn
        have hb7 : nwB T n (i + 3) (upC (cA A) 0) (upV V (nbN 0 + cA A 0) (wdI T n (i + 1))) = false := by
          unfold nwB
          rw [decide_eq_false t7, Bool.false_and]
        have ef : fL T n (A 0) 7 0 (i + 3) A (upV V (nbN 0 + cA A 0) (wdI T n (i + 1))) = .inl (nmF T n (i + 3), frI T n (i + 3)) := by
          rw [fL_s (by simp)]
          rw [show vO T n (A 0) 0 (i + 3) A (upV V (nbN 0 + cA A 0) (wdI T n (i + 1))) = .inl (nmF T n (i + 3), frI T n (i + 3)) from if_pos hb7]
        obtain ⟨k', r, f, l⟩ := r_fail rc7 2
        have nm : nmF T n (i + 3) = fkN T n (i + 3) 2 := by
          unfold nmF
          rw [if_neg t7]
        rw [ef, nm]
        have e : f_X12_aFact k 113 = some (nI 0, k') := by simp (disch := first | assumption | omega | decide | ((repeat first | apply lyI | apply lyJ | apply lywI | apply lywJ | apply csI | apply csJ | apply cswI | apply cswJ); assumption)) only [f_X12_aFact, SM, LI, ↓li_m1, nI_add, pk_mul, nn_sub, nn_m1, nn_div, nn_rem, nn_nz, nn_mod, nJ_l, lN_add, lN_mul, nn_tb1, nI_bt, nn_and, nn_or, nn_xor, nn_shr, nn_1shl, nn_31, il_p, il_n, it_p, it_n, ie_p, ie_n, ie_b, ie_b1, ie_m, ie_mm, it_m, it_m0, il_m0, bI_rZ, Option.bind_some, bd2_some, Nat.add_zero, Nat.zero_add, if_true, if_false, Bool.false_eq_true, eq_self, hI_R, hJ_R, ng_t, ng_e, q0, if_neg n4, q3, g3, r5', q0', r7', isn, r, rz0]
        exact drm_fl d7 f l (by rw [e, bd2_some, j74_0])
    · rw [if_pos t6]
      obtain ⟨k', r, f, l⟩ := w2 t6
      have r' : f_X12_wantWord (hI k5 114 1600 (nI (A 0 + 1))) 113 1 (nI 4) = some (nI 0, k') := r
      have e : f_X12_aFact k 113 = some (nI 0, k') := by simp (disch := first | assumption | omega | decide | ((repeat first | apply lyI | apply lyJ | apply lywI | apply lywJ | apply csI | apply csJ | apply cswI | apply cswJ); assumption)) only [f_X12_aFact, SM, LI, ↓li_m1, nI_add, pk_mul, nn_sub, nn_m1, nn_div, nn_rem, nn_nz, nn_mod, nJ_l, lN_add, lN_mul, nn_tb1, nI_bt, nn_and, nn_or, nn_xor, nn_shr, nn_1shl, nn_31, il_p, il_n, it_p, it_n, ie_p, ie_n, ie_b, ie_b1, ie_m, ie_mm, it_m, it_m0, il_m0, bI_rZ, Option.bind_some, bd2_some, Nat.add_zero, Nat.zero_add, if_true, if_false, Bool.false_eq_true, eq_self, hI_R, hJ_R, ng_t, ng_e, q0, if_neg n4, q3, g3, r5', q0', r']
      exact drm_fl d6 f l (by rw [e, bd2_some, j74_0])
theorem o_fact {h0 h : aH} {c : Nat} {T : Nat → Nat} {n m i : Nat} {A : Nat → Nat} {V : Nat → List Nat} {Bv : Nat → Nat} {Q : Nat → Nat → Bool} (d : DC h0 h c T n m i A V Bv Q) (dv : DV A V Bv Q) (t : tcI T n i = 8) : PO h0 c T n m i A V Bv Q (f_X2_readFact h 42) (fun k => f_X12_casePart k 113) := ⟨fO T n i A V Bv Q, x_fact d dv t, fun i' r e => fO_lt dv e, fun k0 k dr => r_fact dr dv t⟩
