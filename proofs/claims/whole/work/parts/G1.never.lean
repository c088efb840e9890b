/-! ===== cases: never ===== -/
theorem fk_n {T : Nat → Nat} {n i k : Nat} (h : tcI T n i ≠ 1) : fkN T n i k = k := if_neg h
theorem ca_v {A : Nat → Nat} : cA A 0 = A 0 ∧ cA A 1 = A 1 ∧ cA A 2 = A 3 ∧ cA A 3 = A 4 := ⟨rfl, rfl, rfl, rfl⟩
/-- two values that can't be together -/
def nvB (Bv : Nat → Nat) (a b : Nat) : Nat → Nat := fun v => if v = a then Bv a ||| 2 ^ b else if v = b then Bv b ||| 2 ^ a else Bv v
theorem or_24 {x b : Nat} (hx : x < 2 ^ 24) (hb : b < 24) : x ||| 2 ^ b < 2 ^ 24 := Nat.or_lt_two_pow hx (Nat.pow_lt_pow_right (by decide) hb)
theorem dr_fl {k0 k k' : aH} {T : Nat → Nat} {n i : Nat} {A : Nat → Nat} {V : Nat → List Nat} {Bv : Nat → Nat} {Q : Nat → Nat → Bool} (d : DR k0 k T n i A V Bv Q) {f q : Nat} (fr : FR k k' [] [] [] F13) (rl : RLx k' f q) {x : Option (Int32 × aH)} (e : x = some (nI 0, k')) : ORc k0 T n x (.inl (f, q)) := ⟨k', e, frr_13 d.1 fr, rl⟩
theorem dc_fl {h0 h h' : aH} {c : Nat} {T : Nat → Nat} {n m i : Nat} {A : Nat → Nat} {V : Nat → List Nat} {Bv : Nat → Nat} {Q : Nat → Nat → Bool} (d : DC h0 h c T n m i A V Bv Q) {f q : Nat} (f0 : f ≠ 0) (f9 : f < 100) (fr : FR h h' [4] [4] [] []) (fl : FL h' f q) {x : Option (Int32 × aH)} (e : x = some (nI 0, h')) : OCc h0 c T n m x (.inl (f, q)) := ⟨f0, f9, h', e, d.1.tr (fr.mono lcc_4 ljc_4 (by simp) (by simp)), fl⟩
/-- the part's end, in both -/
def smD (T : Nat → Nat) (n j : Nat) (A : Nat → Nat) (V : Nat → List Nat) (Bv : Nat → Nat) (Q : Nat → Nat → Bool) : OD := if tcI T n j = 3 then .inr (j + 1, A, V, Bv, Q) else .inl (fkN T n j 2, frI T n j)
theorem x_smD {h0 h : aH} {c : Nat} {T : Nat → Nat} {n m j : Nat} {A : Nat → Nat} {V : Nat → List Nat} {Bv : Nat → Nat} {Q : Nat → Nat → Bool} (d : DC h0 h c T n m j A V Bv Q) (dv : DV A V Bv Q) {x : Option (Int32 × aH)} (e : ∀ r h', f_X4_take h 4 (nI 3) = some (r, h') → rZ r = some r → x = some (r, h')) : OCc h0 c T n m x (smD T n j A V Bv Q) := by
  rcases x_take (w := 3) d.2.1 (by decide) (by decide) with ⟨t, h', r, f, l⟩ | ⟨t, h', r, f, l⟩
  · rw [show smD T n j A V Bv Q = .inr (j + 1, A, V, Bv, Q) from if_pos t]
    exact ⟨dv, h', e _ _ r rfl, dc_4 d f l⟩
  · rw [show smD T n j A V Bv Q = .inl (fkN T n j 2, frI T n j) from if_neg t]
    obtain ⟨f1, f2⟩ := fk_b (T := T) (n := n) (i := j) (k := 2) (by decide) (by decide)
    exact dc_fl d f1 f2 f l (e _ _ r rfl)
theorem r_smD {k0 k : aH} {T : Nat → Nat} {n j : Nat} {A : Nat → Nat} {V : Nat → List Nat} {Bv : Nat → Nat} {Q : Nat → Nat → Bool} (d : DR k0 k T n j A V Bv Q) : ORc k0 T n (f_X12_casePart_j74 k 113 (nI 1)) (smD T n j A V Bv Q) := by
  have kl := d.2.1.1
  obtain ⟨y1, y2⟩ := r_want (t := 3) (c := 59) d.2.1 (Or.inl ⟨rfl, rfl⟩)
  by_cases t : tcI T n j = 3
  · rw [show smD T n j A V Bv Q = .inr (j + 1, A, V, Bv, Q) from if_pos t]
    obtain ⟨k', r, f, l⟩ := y1 t
    exact ⟨k', by simp (disch := first | assumption | omega | decide | ((repeat first | apply lyI | apply lyJ | apply lywI | apply lywJ | apply csI | apply csJ | apply cswI | apply cswJ); assumption)) only [f_X12_casePart_j74, SM, LI, ↓li_m1, nI_add, pk_mul, nn_sub, nn_m1, nn_div, nn_rem, nn_nz, nn_mod, nJ_l, lN_add, lN_mul, nn_tb1, nI_bt, nn_and, nn_or, nn_xor, nn_shr, nn_1shl, nn_31, il_p, il_n, it_p, it_n, ie_p, ie_n, ie_b, ie_b1, ie_m, ie_mm, it_m, it_m0, il_m0, bI_rZ, Option.bind_some, bd2_some, Nat.add_zero, Nat.zero_add, if_true, if_false, Bool.false_eq_true, eq_self, hI_R, hJ_R, ng_t, ng_e, r], dr_13 d f l⟩
  · rw [show smD T n j A V Bv Q = .inl (fkN T n j 2, frI T n j) from if_neg t]
    obtain ⟨k', r, f, l⟩ := y2 t
    exact dr_fl d f l (by simp (disch := first | assumption | omega | decide | ((repeat first | apply lyI | apply lyJ | apply lywI | apply lywJ | apply csI | apply csJ | apply cswI | apply cswJ); assumption)) only [f_X12_casePart_j74, SM, LI, ↓li_m1, nI_add, pk_mul, nn_sub, nn_m1, nn_div, nn_rem, nn_nz, nn_mod, nJ_l, lN_add, lN_mul, nn_tb1, nI_bt, nn_and, nn_or, nn_xor, nn_shr, nn_1shl, nn_31, il_p, il_n, it_p, it_n, ie_p, ie_n, ie_b, ie_b1, ie_m, ie_mm, it_m, it_m0, il_m0, bI_rZ, Option.bind_some, bd2_some, Nat.add_zero, Nat.zero_add, if_true, if_false, Bool.false_eq_true, eq_self, hI_R, hJ_R, ng_t, ng_e, r])
theorem j74_0 {k : aH} : f_X12_casePart_j74 k 113 (nI 0) = some (nI 0, k) := if_pos rfl
theorem smD_lt {T : Nat → Nat} {n j : Nat} {A : Nat → Nat} {V : Nat → List Nat} {Bv : Nat → Nat} {Q : Nat → Nat → Bool} {i' : Nat} {r : (Nat → Nat) × (Nat → List Nat) × (Nat → Nat) × (Nat → Nat → Bool)} (e : smD T n j A V Bv Q = .inr (i', r)) : j < i' := by
  unfold smD at e
  by_cases t : tcI T n j = 3
  · rw [if_pos t] at e
    cases e
    omega
  · rw [if_neg t] at e
    cases e
/-- the outcome of a part -/
def PO (h0 : aH) (c : Nat) (T : Nat → Nat) (n m i : Nat) (A : Nat → Nat) (V : Nat → List Nat) (Bv : Nat → Nat) (Q : Nat → Nat → Bool) (x : Option (Int32 × aH)) (y : aH → Option (Int32 × aH)) : Prop := ∃ o, OCc h0 c T n m x o ∧ (∀ i' r, o = .inr (i', r) → i < i') ∧ ∀ k0 k, DR k0 k T n i A V Bv Q → ORc k0 T n (y k) o
theorem r_cp0 {k : aH} {T : Nat → Nat} {n i : Nat} (rc : RC k T n i) : f_X12_inWords k 113 1 = some (iwI T n i) := r_inW rc.1 rc.2.1
theorem cp_never {k : aH} {T : Nat → Nat} {n i : Nat} (rc : RC k T n i) (t : tcI T n i = 10) : f_X12_casePart k 113 = bd2 (f_X12_aNever k 113) fun r k' => f_X12_casePart_j74 k' 113 r := by
  have kl := rc.1
  have iw := r_cp0 rc
  rw [show iwI T n i = nI 1 by unfold iwI; rw [t]; rfl] at iw
  simp (disch := first | assumption | omega | decide | ((repeat first | apply lyI | apply lyJ | apply lywI | apply lywJ | apply csI | apply csJ | apply cswI | apply cswJ); assumption)) only [f_X12_casePart, SM, LI, ↓li_m1, nI_add, pk_mul, nn_sub, nn_m1, nn_div, nn_rem, nn_nz, nn_mod, nJ_l, lN_add, lN_mul, nn_tb1, nI_bt, nn_and, nn_or, nn_xor, nn_shr, nn_1shl, nn_31, il_p, il_n, it_p, it_n, ie_p, ie_n, ie_b, ie_b1, ie_m, ie_mm, it_m, it_m0, il_m0, bI_rZ, Option.bind_some, bd2_some, Nat.add_zero, Nat.zero_add, if_true, if_false, Bool.false_eq_true, eq_self, hI_R, hJ_R, ng_t, ng_e, iw]
set_option maxHeartbeats 6000000 in
theorem o_never {h0 h : aH} {c : Nat} {T : Nat → Nat} {n m i : Nat} {A : Nat → Nat} {V : Nat → List Nat} {Bv : Nat → Nat} {Q : Nat → Nat → Bool} (d : DC h0 h c T n m i A V Bv Q) (dv : DV A V Bv Q) (t : tcI T n i = 10) : PO h0 c T n m i A V Bv Q (f_X2_readNever h 42) (fun k => f_X12_casePart k 113) := by
  obtain ⟨d1, lc, hs, h6, nc, dca, dn, dw⟩ := id d
  obtain ⟨wf, nv, -⟩ := id dv
  obtain ⟨b0, b1, b2l, b2, b3, b4⟩ := wf_b wf
  have hl := lc.1
  have e16 : h.2.1 c 16 = nI (A 3) := dca.1.2.2.2.1
  rcases (Nat.eq_zero_or_pos (A 3)).symm with a3 | a3
  · obtain ⟨h', r, f, l⟩ := x_ref lc 7
    rw [fk_n (by omega)] at l
    refine ⟨.inl (7, frI T n i), dc_fl d (by decide) (by decide) f l (by simp (disch := first | assumption | omega | decide | ((repeat first | apply lyI | apply lyJ | apply lywI | apply lywJ | apply csI | apply csJ | apply cswI | apply cswJ); assumption)) only [f_X2_readNever, SR, SX, SC, LI, ↓li_m1, nI_add, pk_mul, nn_sub, nn_m1, nn_div, nn_rem, nn_nz, nn_mod, nJ_l, lN_add, lN_mul, nn_tb1, nI_bt, nn_and, nn_or, nn_xor, nn_shr, nn_1shl, nn_31, il_p, il_n, it_p, it_n, ie_p, ie_n, ie_b, ie_b1, ie_m, ie_mm, it_m, it_m0, il_m0, bI_rZ, Option.bind_some, bd2_some, Nat.add_zero, Nat.zero_add, if_true, if_false, Bool.false_eq_true, eq_self, hI_R, hJ_R, ng_t, ng_e, h6, e16, r, rz0]), fun _ _ e => (by cases e), fun k0 k dr => ?_⟩
    have kl := dr.2.1.1
    have q3 : k.2.1 114 1603 = nI (A 3) := dr.2.2.2.1 3 (by decide) (by decide)
    obtain ⟨k', r, f, l⟩ := r_fail dr.2.1 7
    rw [fk_n (by omega)] at l
    refine dr_fl dr f l ?_
    show f_X12_casePart k 113 = _
    rw [cp_never dr.2.1 t]
    have e : f_X12_aNever k 113 = some (nI 0, k') := by simp (disch := first | assumption | omega | decide | ((repeat first | apply lyI | apply lyJ | apply lywI | apply lywJ | apply csI | apply csJ | apply cswI | apply cswJ); assumption)) only [f_X12_aNever, SM, LI, ↓li_m1, nI_add, pk_mul, nn_sub, nn_m1, nn_div, nn_rem, nn_nz, nn_mod, nJ_l, lN_add, lN_mul, nn_tb1, nI_bt, nn_and, nn_or, nn_xor, nn_shr, nn_1shl, nn_31, il_p, il_n, it_p, it_n, ie_p, ie_n, ie_b, ie_b1, ie_m, ie_mm, it_m, it_m0, il_m0, bI_rZ, Option.bind_some, bd2_some, Nat.add_zero, Nat.zero_add, if_true, if_false, Bool.false_eq_true, eq_self, hI_R, hJ_R, ng_t, ng_e, q3, r, rz0]
    rw [e, bd2_some, j74_0]
  rw [a3] at e16
  obtain ⟨h4, r4, f4, lc4⟩ := x_adv lc (lc_lt lc (by omega))
  have d4 := dc_4 d f4 lc4
  have l4 := lc4.1
  have s4 := d4.2.2.1
  have h46 := d4.2.2.2.1
  obtain ⟨u1, u2⟩ := x_tkName lc4 s4 d4.2.2.2.2.1 nv (s := 1) (by decide)
  /- the reference's first steps -/
  have R1 : ∀ k0 k, DR k0 k T n i A V Bv Q → ∃ k3, f_X12_ahead k 113 = some k3 ∧ DR k0 k3 T n (i + 1) A V Bv Q := fun k0 k dr => by
    obtain ⟨k3, r, f, l⟩ := r_go dr.2.1
    exact ⟨k3, r, dr_13 dr f l⟩
  cases ha : nmO T n (i + 1) (cA A) V 1 with
  | none =>
    obtain ⟨h9, r, f, l⟩ := u2 ha
    obtain ⟨n1, n2⟩ := nf_b (T := T) (n := n) (i := i + 1)
    refine ⟨.inl (nmF T n (i + 1), frI T n (i + 1)), dc_fl d4 n1 n2 f l (by simp (disch := first | assumption | omega | decide | ((repeat first | apply lyI | apply lyJ | apply lywI | apply lywJ | apply csI | apply csJ | apply cswI | apply cswJ); assumption)) only [f_X2_readNever, SR, SX, SC, LI, ↓li_m1, nI_add, pk_mul, nn_sub, nn_m1, nn_div, nn_rem, nn_nz, nn_mod, nJ_l, lN_add, lN_mul, nn_tb1, nI_bt, nn_and, nn_or, nn_xor, nn_shr, nn_1shl, nn_31, il_p, il_n, it_p, it_n, ie_p, ie_n, ie_b, ie_b1, ie_m, ie_mm, it_m, it_m0, il_m0, bI_rZ, Option.bind_some, bd2_some, Nat.add_zero, Nat.zero_add, if_true, if_false, Bool.false_eq_true, eq_self, hI_R, hJ_R, ng_t, ng_e, h6, e16, r4, h46, r]), fun _ _ e => (by cases e), fun k0 k dr => ?_⟩
    obtain ⟨k3, g3, dr3⟩ := R1 k0 k dr
    have kl := dr.2.1.1
    have kl3 := dr3.2.1.1
    have q3 : k.2.1 114 1603 = nI 0 := by rw [← a3]; exact dr.2.2.2.1 3 (by decide) (by decide)
    have q1 : k3.2.1 114 1601 = nI (A 1) := dr3.2.2.2.1 1 (by decide) (by decide)
    obtain ⟨w1, w2⟩ := r_old dr3.2.1 dr3.2.2.1 nv (s := 1) (by decide) (by decide)
    obtain ⟨k', r, f, l⟩ := w2 ha
    have r' : f_X12_oldName k3 113 (nI 176) (nI 4) (nI (A 1)) = some (nI 0, k') := r
    refine dr_fl dr3 f l ?_
    show f_X12_casePart k 113 = _
    rw [cp_never dr.2.1 t]
    have e : f_X12_aNever k 113 = some (nI 0, k') := by simp (disch := first | assumption | omega | decide | ((repeat first | apply lyI | apply lyJ | apply lywI | apply lywJ | apply csI | apply csJ | apply cswI | apply cswJ); assumption)) only [f_X12_aNever, SM, LI, ↓li_m1, nI_add, pk_mul, nn_sub, nn_m1, nn_div, nn_rem, nn_nz, nn_mod, nJ_l, lN_add, lN_mul, nn_tb1, nI_bt, nn_and, nn_or, nn_xor, nn_shr, nn_1shl, nn_31, il_p, il_n, it_p, it_n, ie_p, ie_n, ie_b, ie_b1, ie_m, ie_mm, it_m, it_m0, il_m0, bI_rZ, Option.bind_some, bd2_some, Nat.add_zero, Nat.zero_add, if_true, if_false, Bool.false_eq_true, eq_self, hI_R, hJ_R, ng_t, ng_e, q3, g3, q1, r']
    rw [e, bd2_some, j74_0]
  | some a =>
    obtain ⟨h9, r9, f9, lc9⟩ := u1 a ha
    have d9 := dc_4 d4 f9 lc9
    have l9 := lc9.1
    have s9 := d9.2.2.1
    have h96 := d9.2.2.2.1
    have a24 : a < A 1 := (nm_6 ha).2
    obtain ⟨v1, v2⟩ := x_seek lc9 s9 d9.2.2.2.2.1 nv (s := 1) (by decide)
    /- the reference's second steps -/
    have R2 : ∀ k0 k, DR k0 k T n i A V Bv Q → ∃ k3 k9, f_X12_ahead k 113 = some k3 ∧ f_X12_oldName k3 113 (nI 176) (nI 4) (nI (A 1)) = some (nI 1, hI k3 113 21 (nI a)) ∧ LAY k3 ∧ k3.2.1 114 1601 = nI (A 1) ∧ f_X12_ahead (hI k3 113 21 (nI a)) 113 = some k9 ∧ DR k0 k9 T n (i + 1 + 1) A V Bv Q := fun k0 k dr => by
      obtain ⟨k3, g3, dr3⟩ := R1 k0 k dr
      obtain ⟨w1, w2⟩ := r_old dr3.2.1 dr3.2.2.1 nv (s := 1) (by decide) (by decide)
      have f21 : FR k3 (hI k3 113 21 (nI a)) [] [] [] F13 := fr_1 (by decide)
      have dr3' : DR k0 (hI k3 113 21 (nI a)) T n (i + 1) A V Bv Q := dr_13 dr3 f21 (rc_fr (fr_1 (cI := []) (cJ := []) (f0 := []) (f1 := [21]) (by decide)) (by decide) (by decide) dr3.2.1)
      obtain ⟨k9, r, f, l⟩ := r_go dr3'.2.1
      exact ⟨k3, k9, g3, w1 a ha, dr3.2.1.1, dr3.2.2.2.1 1 (by decide) (by decide), r, dr_13 dr3' f l⟩
    cases hb : nmO T n (i + 1 + 1) (cA A) V 1 with
    | none =>
      obtain ⟨h14, r, f, l⟩ := v2 hb
      obtain ⟨n1, n2⟩ := nf_b (T := T) (n := n) (i := i + 1 + 1)
      refine ⟨.inl (nmF T n (i + 1 + 1), frI T n (i + 1 + 1)), dc_fl d9 n1 n2 f l (by simp (disch := first | assumption | omega | decide | ((repeat first | apply lyI | apply lyJ | apply lywI | apply lywJ | apply csI | apply csJ | apply cswI | apply cswJ); assumption)) only [f_X2_readNever, SR, SX, SC, LI, ↓li_m1, nI_add, pk_mul, nn_sub, nn_m1, nn_div, nn_rem, nn_nz, nn_mod, nJ_l, lN_add, lN_mul, nn_tb1, nI_bt, nn_and, nn_or, nn_xor, nn_shr, nn_1shl, nn_31, il_p, il_n, it_p, it_n, ie_p, ie_n, ie_b, ie_b1, ie_m, ie_mm, it_m, it_m0, il_m0, bI_rZ, Option.bind_some, bd2_some, Nat.add_zero, Nat.zero_add, if_true, if_false, Bool.false_eq_true, eq_self, hI_R, hJ_R, ng_t, ng_e, h6, e16, r4, h46, r9, h96, r]), fun _ _ e => (by cases e), fun k0 k dr => ?_⟩
      obtain ⟨k3, k9, g3, o3, kl3, q1, g9, dr9⟩ := R2 k0 k dr
      have kl := dr.2.1.1
      have kl9 := dr9.2.1.1
      have q3 : k.2.1 114 1603 = nI 0 := by rw [← a3]; exact dr.2.2.2.1 3 (by decide) (by decide)
      have q9 : k9.2.1 114 1601 = nI (A 1) := dr9.2.2.2.1 1 (by decide) (by decide)
      obtain ⟨w1, w2⟩ := r_old dr9.2.1 dr9.2.2.1 nv (s := 1) (by decide) (by decide)
      obtain ⟨k', r, f, l⟩ := w2 hb
      have r' : f_X12_oldName k9 113 (nI 176) (nI 4) (nI (A 1)) = some (nI 0, k') := r
      refine dr_fl dr9 f l ?_
      show f_X12_casePart k 113 = _
      rw [cp_never dr.2.1 t]
      have e : f_X12_aNever k 113 = some (nI 0, k') := by simp (disch := first | assumption | omega | decide | ((repeat first | apply lyI | apply lyJ | apply lywI | apply lywJ | apply csI | apply csJ | apply cswI | apply cswJ); assumption)) only [f_X12_aNever, SM, rI_eq, rI_ne, rI_nk, rJ_eq, rJ_ne, rJ_nk, rI_J, rJ_I, LI, ↓li_m1, nI_add, pk_mul, nn_sub, nn_m1, nn_div, nn_rem, nn_nz, nn_mod, nJ_l, lN_add, lN_mul, nn_tb1, nI_bt, nn_and, nn_or, nn_xor, nn_shr, nn_1shl, nn_31, il_p, il_n, it_p, it_n, ie_p, ie_n, ie_b, ie_b1, ie_m, ie_mm, it_m, it_m0, il_m0, bI_rZ, Option.bind_some, bd2_some, Nat.add_zero, Nat.zero_add, if_true, if_false, Bool.false_eq_true, eq_self, hI_R, hJ_R, ng_t, ng_e, q3, g3, q1, o3, g9, q9, r']
      rw [e, bd2_some, j74_0]
    | some b =>
      have r14 := v1 b hb
      have t6 := (nm_6 hb).1
      have b24 : b < A 1 := (nm_6 hb).2
      have ea : h9.2.1 (c + 7) a = nI (A (8 + a)) := (d9.2.2.2.2.2.1.2.2.1 a a24).1
      have eb : h9.2.1 (c + 7) b = nI (A (8 + b)) := (d9.2.2.2.2.2.1.2.2.1 b b24).1
      have fa := (wf.2.2.2.1 a a24).1
      have fb := (wf.2.2.2.1 b b24).1
      have R3 : ∀ k0 k, DR k0 k T n i A V Bv Q → ∃ k3 k9, (LAY k ∧ LAY k3 ∧ LAY k9) ∧ (k.2.1 114 1603 = nI 0 ∧ k3.2.1 114 1601 = nI (A 1) ∧ k9.2.1 114 1601 = nI (A 1)) ∧ f_X12_ahead k 113 = some k3 ∧ f_X12_oldName k3 113 (nI 176) (nI 4) (nI (A 1)) = some (nI 1, hI k3 113 21 (nI a)) ∧ f_X12_ahead (hI k3 113 21 (nI a)) 113 = some k9 ∧ f_X12_oldName k9 113 (nI 176) (nI 4) (nI (A 1)) = some (nI 1, hI k9 113 21 (nI b)) ∧ DR k0 k9 T n (i + 1 + 1) A V Bv Q ∧ DR k0 (hI k9 113 21 (nI b)) T n (i + 1 + 1) A V Bv Q := fun k0 k dr => by
        obtain ⟨k3, k9, g3, o3, kl3, q1, g9, dr9⟩ := R2 k0 k dr
        obtain ⟨w1, w2⟩ := r_old dr9.2.1 dr9.2.2.1 nv (s := 1) (by decide) (by decide)
        refine ⟨k3, k9, ⟨dr.2.1.1, kl3, dr9.2.1.1⟩, ⟨?_, q1, dr9.2.2.2.1 1 (by decide) (by decide)⟩, g3, o3, g9, w1 b hb, dr9, dr_13 dr9 (fr_1 (by decide)) (rc_fr (fr_1 (cI := []) (cJ := []) (f0 := []) (f1 := [21]) (by decide)) (by decide) (by decide) dr9.2.1)⟩
        rw [← a3]
        exact dr.2.2.2.1 3 (by decide) (by decide)
      by_cases hab : A (8 + a) = A (8 + b)
      · obtain ⟨h', r, f, l⟩ := x_ref lc9 5
        rw [fk_n (by omega)] at l
        rw [hab] at ea
        refine ⟨.inl (5, frI T n (i + 1 + 1)), dc_fl d9 (by decide) (by decide) f l (by simp (disch := first | assumption | omega | decide | ((repeat first | apply lyI | apply lyJ | apply lywI | apply lywJ | apply csI | apply csJ | apply cswI | apply cswJ); assumption)) only [f_X2_readNever, SR, SX, SC, LI, ↓li_m1, nI_add, pk_mul, nn_sub, nn_m1, nn_div, nn_rem, nn_nz, nn_mod, nJ_l, lN_add, lN_mul, nn_tb1, nI_bt, nn_and, nn_or, nn_xor, nn_shr, nn_1shl, nn_31, il_p, il_n, it_p, it_n, ie_p, ie_n, ie_b, ie_b1, ie_m, ie_mm, it_m, it_m0, il_m0, bI_rZ, Option.bind_some, bd2_some, Nat.add_zero, Nat.zero_add, if_true, if_false, Bool.false_eq_true, eq_self, hI_R, hJ_R, ng_t, ng_e, h6, e16, r4, h46, r9, h96, r14, ea, eb, r, rz0]), fun _ _ e => (by cases e), fun k0 k dr => ?_⟩
        obtain ⟨k3, k9, ⟨kl, kl3, kl9⟩, ⟨q3, q1, q9⟩, g3, o3, g9, o9, dr9, dr9'⟩ := R3 k0 k dr
        obtain ⟨k', r, f, l⟩ := r_fail dr9'.2.1 5
        rw [fk_n (by omega)] at l
        refine dr_fl dr9' f l ?_
        show f_X12_casePart k 113 = _
        rw [cp_never dr.2.1 t]
        have ka : k9.2.1 114 (1608 + a) = nI (A (8 + b)) := by rw [← hab, show 1608 + a = 1600 + (8 + a) by omega]; exact dr9.2.2.2.1 (8 + a) (by omega) (by omega)
        have kb : k9.2.1 114 (1608 + b) = nI (A (8 + b)) := by rw [show 1608 + b = 1600 + (8 + b) by omega]; exact dr9.2.2.2.1 (8 + b) (by omega) (by omega)
        have e : f_X12_aNever k 113 = some (nI 0, k') := by simp (disch := first | assumption | omega | decide | ((repeat first | apply lyI | apply lyJ | apply lywI | apply lywJ | apply csI | apply csJ | apply cswI | apply cswJ); assumption)) only [f_X12_aNever, SM, rI_eq, rI_ne, rI_nk, rJ_eq, rJ_ne, rJ_nk, rI_J, rJ_I, LI, ↓li_m1, nI_add, pk_mul, nn_sub, nn_m1, nn_div, nn_rem, nn_nz, nn_mod, nJ_l, lN_add, lN_mul, nn_tb1, nI_bt, nn_and, nn_or, nn_xor, nn_shr, nn_1shl, nn_31, il_p, il_n, it_p, it_n, ie_p, ie_n, ie_b, ie_b1, ie_m, ie_mm, it_m, it_m0, il_m0, bI_rZ, Option.bind_some, bd2_some, Nat.add_zero, Nat.zero_add, if_true, if_false, Bool.false_eq_true, eq_self, hI_R, hJ_R, ng_t, ng_e, q3, g3, q1, o3, g9, q9, o9, ka, kb, r, rz0]
        rw [e, bd2_some, j74_0]
      · have ab : a ≠ b := fun e => hab (by rw [e])
        have hab' : ¬ nI (A (8 + a)) = nI (A (8 + b)) := d_ne (by omega) (by omega) hab
        have ba := dv.2.2.2.1 a (by omega)
        have bb := dv.2.2.2.1 b (by omega)
        have na : h9.2.1 48 a = nI (Bv a) := d9.2.2.2.2.2.2.1 a (by omega)
        have nb : h9.2.1 48 b = nI (Bv b) := d9.2.2.2.2.2.2.1 b (by omega)
        have dv' : DV A V (nvB Bv a b) Q := by
          obtain ⟨z1, z2, z3, z4, z5, z6, z7⟩ := dv
          refine ⟨z1, z2, z3, fun v hv => ?_, z5, fun q w hq => absurd (z6 q w hq).1 (by omega), z7⟩
          unfold nvB
          split
          · exact or_24 ba (by omega)
          · split
            · exact or_24 bb (by omega)
            · exact z4 v hv
        have a31 : a < 31 := by omega
        have b31 : b < 31 := by omega
        have bnb : (hI h9 48 a (nI (Bv a ||| 2 ^ b))).2.1 48 b = nI (Bv b) := by rw [rI_nk (fun e => ab e.symm)]; exact nb
        let g := hI (hI h9 48 a (nI (Bv a ||| 2 ^ b))) 48 b (nI (Bv b ||| 2 ^ a))
        have fg : FR h9 g [48] [] [] [] := (FR.hI (by decide) (by decide) (by decide)).tr (FR.hI (by decide) (by decide) (by decide))
        have lg := fg.lay l9
        have lcg := lc_fr fg (by decide) (by decide) lc9
        obtain ⟨h28, r28, f28, lc28⟩ := x_adv lcg (lc_lt lcg (by omega))
        have c0 := hs.1
        have dg : DC h0 g c T n m (i + 1 + 1) A V (nvB Bv a b) Q := by
          obtain ⟨y1, y2, y3, y4, y5, y6, y7, y8⟩ := d9
          refine ⟨y1.tr (fg.mono (by intro x hx; unfold LCc; simp at hx ⊢; omega) (by simp) (by simp) (by simp)), lcg, cs_fr fg y3, y4, nc_fr fg y3 (by simp; omega) (by simp) (by simp; omega) (by simp; omega) y5, ?_, fun v hv => ?_, ?_⟩
          · have ec : ∀ j, j < 16 → g.2.1 (c + j) = h9.2.1 (c + j) := fun j hj => fg.I _ (by simp; omega) (by omega) (by omega)
            have e0 := ec 0 (by decide)
            rw [Nat.add_zero] at e0
            unfold DCa
            rw [e0, ec 5 (by decide), ec 7 (by decide), ec 8 (by decide), ec 11 (by decide), ec 12 (by decide), ec 13 (by decide), ec 14 (by decide)]
            exact y6
          · show (hI (hI h9 48 a (nI (Bv a ||| 2 ^ b))) 48 b (nI (Bv b ||| 2 ^ a))).2.1 48 v = _
            unfold nvB
            by_cases hvb : v = b
            · subst hvb
              rw [rI_eq, if_neg (fun e => ab e.symm), if_pos rfl]
            · rw [rI_nk hvb]
              by_cases hva : v = a
              · subst hva
                rw [rI_eq, if_pos rfl]
              · rw [rI_nk hva, if_neg hva, if_neg hvb]
                exact y7 v hv
          · rcases y8 with y8 | y8
            · exact Or.inl y8
            · exact absurd y8.1 (by omega)
        have d28 := dc_4 dg f28 lc28
        have l28 := lc28.1
        refine ⟨smD T n (i + 1 + 1 + 1) A V (nvB Bv a b) Q, x_smD d28 dv' (fun r h' hr hz => ?_), fun i' r e => by have := smD_lt e; omega, fun k0 k dr => ?_⟩
        · have r28' : f_X4_advance (hI (hI h9 48 a (nI (Bv a ||| 2 ^ b))) 48 b (nI (Bv b ||| 2 ^ a))) 4 = some h28 := r28
          simp (disch := first | assumption | omega | decide | ((repeat first | apply lyI | apply lyJ | apply lywI | apply lywJ | apply csI | apply csJ | apply cswI | apply cswJ); assumption)) only [f_X2_readNever, SR, SX, SC, LI, ↓li_m1, nI_add, pk_mul, nn_sub, nn_m1, nn_div, nn_rem, nn_nz, nn_mod, nJ_l, lN_add, lN_mul, nn_tb1, nI_bt, nn_and, nn_or, nn_xor, nn_shr, nn_1shl, nn_31, il_p, il_n, it_p, it_n, ie_p, ie_n, ie_b, ie_b1, ie_m, ie_mm, it_m, it_m0, il_m0, bI_rZ, Option.bind_some, bd2_some, Nat.add_zero, Nat.zero_add, if_true, if_false, Bool.false_eq_true, eq_self, hI_R, hJ_R, ng_t, ng_e, h6, e16, r4, h46, r9, h96, r14, ea, eb, if_neg hab', na, nb, bnb, r28', hr, hz]
        · obtain ⟨k3, k9, ⟨kl, kl3, kl9⟩, ⟨q3, q1, q9⟩, g3, o3, g9, o9, dr9, dr9'⟩ := R3 k0 k dr
          have ka : k9.2.1 114 (1608 + a) = nI (A (8 + a)) := by rw [show 1608 + a = 1600 + (8 + a) by omega]; exact dr9.2.2.2.1 (8 + a) (by omega) (by omega)
          have kb : k9.2.1 114 (1608 + b) = nI (A (8 + b)) := by rw [show 1608 + b = 1600 + (8 + b) by omega]; exact dr9.2.2.2.1 (8 + b) (by omega) (by omega)
          have xa : k9.2.1 122 a = nI (Bv a) := dr9.2.2.2.2.2.1 a (by omega)
          have xb : k9.2.1 122 b = nI (Bv b) := dr9.2.2.2.2.2.1 b (by omega)
          let w := hI (hI (hI k9 113 21 (nI b)) 122 a (nI (Bv a ||| 2 ^ b))) 122 b (nI (Bv b ||| 2 ^ a))
          have xnb : (hI (hI k9 113 21 (nI b)) 122 a (nI (Bv a ||| 2 ^ b))).2.1 122 b = nI (Bv b) := by rw [rI_nk (fun e => ab e.symm), rI_ne (by decide)]; exact xb
          have fw : FR (hI k9 113 21 (nI b)) w [122] [] [] [] := (FR.hI (by decide) (by decide) (by decide)).tr (FR.hI (by decide) (by decide) (by decide))
          have lw := fw.lay dr9'.2.1.1
          have drw : DR k0 w T n (i + 1 + 1) A V (nvB Bv a b) Q := by
            obtain ⟨y1, y2, y3, y4, y5, y6, y7, y8⟩ := dr9'
            have e4 : w.2.1 114 = (hI k9 113 21 (nI b)).2.1 114 := fw.I 114 (by decide) (by decide) (by decide)
            refine ⟨⟨y1.1.tr (fw.mono (by decide) (by decide) (by decide) (by decide)), by rw [e4]; exact y1.2.1, y1.2.2⟩, rc_fr fw (by decide) (by decide) y2, y3, by rw [e4]; exact y4, by rw [e4]; exact y5, fun v hv => ?_, fun h3 => absurd h3 (by omega), y8⟩
            show (hI (hI (hI k9 113 21 (nI b)) 122 a (nI (Bv a ||| 2 ^ b))) 122 b (nI (Bv b ||| 2 ^ a))).2.1 122 v = _
            unfold nvB
            by_cases hvb : v = b
            · subst hvb
              rw [rI_eq, if_neg (fun e => ab e.symm), if_pos rfl]
            · rw [rI_nk hvb]
              by_cases hva : v = a
              · subst hva
                rw [rI_eq, if_pos rfl]
              · rw [rI_nk hva, if_neg hva, if_neg hvb]
                exact y6 v hv
          obtain ⟨k', r, f, l⟩ := r_go drw.2.1
          have drk := dr_13 drw f l
          have r' : f_X12_ahead (hI (hI (hI k9 113 21 (nI b)) 122 a (nI (Bv a ||| 2 ^ b))) 122 b (nI (Bv b ||| 2 ^ a))) 113 = some k' := r
          show ORc k0 T n (f_X12_casePart k 113) _
          have e : f_X12_aNever k 113 = some (nI 1, k') := by simp (disch := first | assumption | omega | decide | ((repeat first | apply lyI | apply lyJ | apply lywI | apply lywJ | apply csI | apply csJ | apply cswI | apply cswJ); assumption)) only [f_X12_aNever, SM, rI_eq, rI_ne, rI_nk, rJ_eq, rJ_ne, rJ_nk, rI_J, rJ_I, LI, ↓li_m1, nI_add, pk_mul, nn_sub, nn_m1, nn_div, nn_rem, nn_nz, nn_mod, nJ_l, lN_add, lN_mul, nn_tb1, nI_bt, nn_and, nn_or, nn_xor, nn_shr, nn_1shl, nn_31, il_p, il_n, it_p, it_n, ie_p, ie_n, ie_b, ie_b1, ie_m, ie_mm, it_m, it_m0, il_m0, bI_rZ, Option.bind_some, bd2_some, Nat.add_zero, Nat.zero_add, if_true, if_false, Bool.false_eq_true, eq_self, hI_R, hJ_R, ng_t, ng_e, q3, g3, q1, o3, g9, q9, o9, ka, kb, if_neg hab', xa, xb, xnb, r']
          rw [cp_never dr.2.1 t, e, bd2_some]
          exact r_smD drk
