/-! ===== cases: the reference reads a question ===== -/
theorem r_qset {k : aH} (kl : LAY k) {q : Nat} (q12 : q < 12) : ∃ k', f_X12_aQuestion_l95 113 (nI q) (nI 0) k = some k' ∧ FR k k' [] [115] [] [] ∧ ∀ x, k'.2.2.1 115 x = if 212 + 4 * q ≤ x ∧ x < 212 + 4 * q + 4 then k.2.2.1 123 (x - (212 + 4 * q)) &&& k.2.2.1 115 (208 + (x - (212 + 4 * q))) else k.2.2.1 115 x := by
  refine forI (fun j (t : Int32 × aH) => ∃ g, t = (nI j, g) ∧ FR k g [] [115] [] [] ∧ ∀ x, g.2.2.1 115 x = if 212 + 4 * q ≤ x ∧ x < 212 + 4 * q + j then k.2.2.1 123 (x - (212 + 4 * q)) &&& k.2.2.1 115 (208 + (x - (212 + 4 * q))) else k.2.2.1 115 x) _ 4 (by decide) ⟨k, rfl, FR.rf, fun x => by rw [if_neg (by omega)]⟩ ?_ ?_
  · rintro j _ hj ⟨g, rfl, fg, i1⟩
    have lg := fg.lay kl
    have r1 : g.2.2.1 123 j = k.2.2.1 123 j := by rw [fg.J 123 (by decide)]
    have r2 : g.2.2.1 115 (208 + j) = k.2.2.1 115 (208 + j) := by rw [i1, if_neg (by omega)]
    refine ⟨(nI (j + 1), hJ g 115 (212 + 4 * q + j) (k.2.2.1 123 j &&& k.2.2.1 115 (208 + j))), ?_, _, rfl, fg.tr (FR.hJ (by decide)), fun x => ?_⟩
    · simp (disch := first | assumption | omega | decide | ((repeat first | apply lyI | apply lyJ | apply lywI | apply lywJ | apply csI | apply csJ | apply cswI | apply cswJ); assumption)) only [f_X12_aQuestion_b95, SM, LI, ↓li_m1, nI_add, pk_mul, nn_sub, nn_m1, nn_div, nn_rem, nn_nz, nn_mod, nJ_l, lN_add, lN_mul, nn_tb1, nI_bt, nn_and, nn_or, nn_xor, nn_shr, nn_1shl, nn_31, il_p, il_n, it_p, it_n, ie_p, ie_n, ie_b, ie_b1, ie_m, ie_mm, it_m, it_m0, il_m0, bI_rZ, Option.bind_some, bd2_some, Nat.add_zero, Nat.zero_add, if_true, if_false, Bool.false_eq_true, eq_self, hI_R, hJ_R, ng_t, ng_e, r1, r2]
    · by_cases hx : x = 212 + 4 * q + j
      · subst hx
        rw [rJ_eq, if_pos (by omega), Nat.add_sub_cancel_left]
      · rw [rJ_nk hx, i1]
        by_cases hy : 212 + 4 * q ≤ x ∧ x < 212 + 4 * q + j
        · rw [if_pos hy, if_pos (by omega)]
        · rw [if_neg hy, if_neg (by omega)]
  · rintro _ ⟨g, rfl, fg, i1⟩
    exact ⟨g, by simp (disch := first | assumption | omega | decide | ((repeat first | apply lyI | apply lyJ | apply lywI | apply lywJ | apply csI | apply csJ | apply cswI | apply cswJ); assumption)) only [f_X12_aQuestion_b95, LI, ↓li_m1, nI_add, pk_mul, nn_sub, nn_m1, nn_div, nn_rem, nn_nz, nn_mod, nJ_l, lN_add, lN_mul, nn_tb1, nI_bt, nn_and, nn_or, nn_xor, nn_shr, nn_1shl, nn_31, il_p, il_n, it_p, it_n, ie_p, ie_n, ie_b, ie_b1, ie_m, ie_mm, it_m, it_m0, il_m0, bI_rZ, Option.bind_some, bd2_some, Nat.add_zero, Nat.zero_add, if_true, if_false, Bool.false_eq_true, eq_self, hI_R, hJ_R, ng_t, ng_e], fg, i1⟩
theorem cp_quest {k : aH} {T : Nat → Nat} {n i : Nat} (rc : RC k T n i) (t : tcI T n i = 11) : f_X12_casePart k 113 = bd2 (f_X12_aQuestion k 113) fun r k' => f_X12_casePart_j74 k' 113 r := by
  have kl := rc.1
  have iw := r_cp0 rc
  rw [show iwI T n i = nI 2 by unfold iwI; rw [t]; rfl] at iw
  simp (disch := first | assumption | omega | decide | ((repeat first | apply lyI | apply lyJ | apply lywI | apply lywJ | apply csI | apply csJ | apply cswI | apply cswJ); assumption)) only [f_X12_casePart, SM, LI, ↓li_m1, nI_add, pk_mul, nn_sub, nn_m1, nn_div, nn_rem, nn_nz, nn_mod, nJ_l, lN_add, lN_mul, nn_tb1, nI_bt, nn_and, nn_or, nn_xor, nn_shr, nn_1shl, nn_31, il_p, il_n, it_p, it_n, ie_p, ie_n, ie_b, ie_b1, ie_m, ie_mm, it_m, it_m0, il_m0, bI_rZ, Option.bind_some, bd2_some, Nat.add_zero, Nat.zero_add, if_true, if_false, Bool.false_eq_true, eq_self, hI_R, hJ_R, ng_t, ng_e, iw]
/-- behind the conditions -/
def aQ6 (t13 : Int32) (h24 : aH) : Option (Int32 × aH) := if t13 = 0 then (ck h24 12 113).bind fun _ => (f_X12_finds h24 113).bind fun h25 => f_X12_aQuestion_j93 h25 113 t13 else f_X12_aQuestion_j93 h24 113 t13
theorem r_q7 {k0 k : aH} {T : Nat → Nat} {n i : Nat} {A : Nat → Nat} {V : Nat → List Nat} {Bv : Nat → Nat} {Q : Nat → Nat → Bool} {fe : Nat} {S : WS} (wf : WF A) (q12 : A 3 < 12) (hq : ∀ q w, Q q w = true → q < A 3 ∧ cnP A Bv w = true) (f0 : FRR k0 k) (rc : RC k T n i) (nr : NRe k 176 (cA (qA A fe)) V) (ha : ∀ x, x < 100 → x ≠ 7 → k.2.1 114 (1600 + x) = nI (fA A fe x)) (hz : k.2.1 114 1607 = m1 ∧ ∀ x, 100 ≤ x → x < 400 → k.2.1 114 (1600 + x) = nI 0) (hv : ∀ v, v < 24 → k.2.1 122 v = nI (Bv v)) (hc : ∀ w, w < 256 → (k.2.2.1 115 (208 + w / 64)).toBitVec.getLsbD (w % 64) = cnP A Bv w) (hQ : ∀ q w, q < 12 → w < 256 → (k.2.2.1 115 (212 + 4 * q + w / 64)).toBitVec.getLsbD (w % 64) = Q q w) (hS : ∀ w, w < 256 → cnP A Bv w = true → (k.2.2.1 123 (w / 64)).toBitVec.getLsbD (w % 64) = S w) : ∃ k', f_X12_aQuestion_j93 k 113 (nI (A 3)) = some (nI 1, k') ∧ DR k0 k' T n i (qA A fe) V Bv (qQ A Bv Q S) := by
  have kl := rc.1
  have ag := qa_ag (A := A) (fe := fe)
  have h4 := wf.1.1
  obtain ⟨k1, e1, f1, j1⟩ := r_qset kl q12
  have l1 := f1.lay kl
  have g3 : k1.2.1 114 1603 = nI (A 3) := by
    rw [f1.I 114 (by decide) (by decide) (by decide)]
    have := ha 3 (by decide) (by decide)
    rw [show fA A fe 3 = A 3 from if_neg (by omega)] at this
    exact this
  let k2 := hI k1 114 1603 (nI (A 3 + 1))
  have f2 : FR k1 k2 [114] [] [] [] := FR.hI (by decide) (by decide) (by decide)
  have fz : FR k k2 [114] [115] [] [] := (f1.mono (by decide) (by decide) (by decide) (by decide)).tr (f2.mono (by decide) (by decide) (by decide) (by decide))
  have e4 : ∀ y, y ≠ 1603 → k2.2.1 114 y = k.2.1 114 y := fun y hy => by
    show (hI k1 114 1603 (nI (A 3 + 1))).2.1 114 y = _
    rw [rI_nk hy, f1.I 114 (by decide) (by decide) (by decide)]
  have e5 : ∀ y, k2.2.2.1 115 y = k1.2.2.1 115 y := fun y => rfl
  obtain ⟨p1, p2, p3, p4⟩ := f0
  refine ⟨k2, by
    show _ = some (nI 1, hI k1 114 1603 (nI (A 3 + 1)))
    simp (disch := first | assumption | omega | decide | ((repeat first | apply lyI | apply lyJ | apply lywI | apply lywJ | apply csI | apply csJ | apply cswI | apply cswJ); assumption)) only [f_X12_aQuestion_j93, SM, LI, ↓li_m1, nI_add, pk_mul, nn_sub, nn_m1, nn_div, nn_rem, nn_nz, nn_mod, nJ_l, lN_add, lN_mul, nn_tb1, nI_bt, nn_and, nn_or, nn_xor, nn_shr, nn_1shl, nn_31, il_p, il_n, it_p, it_n, ie_p, ie_n, ie_b, ie_b1, ie_m, ie_mm, it_m, it_m0, il_m0, bI_rZ, Option.bind_some, bd2_some, Nat.add_zero, Nat.zero_add, if_true, if_false, Bool.false_eq_true, eq_self, hI_R, hJ_R, ng_t, ng_e, e1, g3], ⟨p1.tr (fz.mono (by decide) (by decide) (by decide) (by decide)), fun y hy => by rw [e4 y (by omega)]; exact p2 y hy, fun y hy => by rw [e5, j1, if_neg (by omega)]; exact p3 y hy, fun y hy => by rw [fz.J 116 (by decide)]; exact p4 y hy⟩, rc_fr fz (by decide) (by decide) rc, nr_fr fz (by decide) nr, fun x hx h7 => ?_, ⟨?_, fun x h1 h2 => ?_⟩, ?_, fun _ w hw => ?_, fun q w hq12 hw => ?_⟩
  · by_cases e : x = 3
    · subst e
      rw [qa_3]
      exact rI_eq
    · rw [e4 (1600 + x) (by omega), ha x hx h7]
      unfold qA fA
      rw [if_neg e]
  · rw [e4 _ (by omega)]
    exact hz.1
  · rw [e4 _ (by omega)]
    exact hz.2 x h1 h2
  · rw [fz.I 122 (by decide) (by decide) (by decide)]
    exact hv
  · rw [e5, j1, if_neg (by omega), ag_cn ag h4]
    exact hc w hw
  · rw [e5, j1]
    by_cases e : q = A 3
    · rw [if_pos (by omega), j_and, e, show 212 + 4 * A 3 + w / 64 - (212 + 4 * A 3) = w / 64 by omega, hc w hw]
      unfold qQ
      rw [if_pos rfl]
      cases hp : cnP A Bv w
      · rw [Bool.and_false, Bool.false_and]
      · rw [hS w hw hp, Bool.and_true, Bool.true_and]
    · rw [if_neg (by omega), hQ q w hq12 hw]
      unfold qQ
      rw [if_neg e]
theorem r_quest {k0 k : aH} {T : Nat → Nat} {n m i : Nat} {A : Nat → Nat} {V : Nat → List Nat} {Bv : Nat → Nat} {Q : Nat → Nat → Bool} (d : DR k0 k T n i A V Bv Q) (dv : DV A V Bv Q) (t : tcI T n i = 11) (hm : m ≤ 900) (ht : ∀ i, i ≤ m → 2 ≤ tcI T n i → i < m) (hi : i ≤ m) : ORc k0 T n (f_X12_casePart k 113) (qO T n i A V Bv Q) := by
  obtain ⟨wf, nv, a2, bb, zz, zq, -, vf, -⟩ := id dv
  obtain ⟨b0, b1, b2l, b2, b3, b4⟩ := wf_b wf
  have kl := d.2.1.1
  have q3 : k.2.1 114 1603 = nI (A 3) := d.2.2.2.1 3 (by decide) (by decide)
  rw [cp_quest d.2.1 t]
  unfold qO
  by_cases q12 : A 3 = 12
  · rw [if_pos q12]
    rw [q12] at q3
    obtain ⟨k', r, f, l⟩ := r_fail d.2.1 6
    rw [fk_n (by omega)] at l
    refine dr_fl d f l ?_
    have e : f_X12_aQuestion k 113 = some (nI 0, k') := by rw [u_X12_aQuestion_e]; simp (disch := first | assumption | omega | decide | ((repeat first | apply lyI | apply lyJ | apply lywI | apply lywJ | apply csI | apply csJ | apply cswI | apply cswJ); assumption)) only [SM, LI, ↓li_m1, nI_add, pk_mul, nn_sub, nn_m1, nn_div, nn_rem, nn_nz, nn_mod, nJ_l, lN_add, lN_mul, nn_tb1, nI_bt, nn_and, nn_or, nn_xor, nn_shr, nn_1shl, nn_31, il_p, il_n, it_p, it_n, ie_p, ie_n, ie_b, ie_b1, ie_m, ie_mm, it_m, it_m0, il_m0, bI_rZ, Option.bind_some, bd2_some, Nat.add_zero, Nat.zero_add, if_true, if_false, Bool.false_eq_true, eq_self, hI_R, hJ_R, ng_t, ng_e, q3, r, rz0]; try (unfold u_X12_aQuestion_c3; simp (disch := first | assumption | omega | decide | ((repeat first | apply lyI | apply lyJ | apply lywI | apply lywJ | apply csI | apply csJ | apply cswI | apply cswJ); assumption)) only [SM, LI, ↓li_m1, nI_add, pk_mul, nn_sub, nn_m1, nn_div, nn_rem, nn_nz, nn_mod, nJ_l, lN_add, lN_mul, nn_tb1, nI_bt, nn_and, nn_or, nn_xor, nn_shr, nn_1shl, nn_31, il_p, il_n, it_p, it_n, ie_p, ie_n, ie_b, ie_b1, ie_m, ie_mm, it_m, it_m0, il_m0, bI_rZ, Option.bind_some, bd2_some, Nat.add_zero, Nat.zero_add, if_true, if_false, Bool.false_eq_true, eq_self, hI_R, hJ_R, ng_t, ng_e, q3, r, rz0]); try (unfold u_X12_aQuestion_c2; simp (disch := first | assumption | omega | decide | ((repeat first | apply lyI | apply lyJ | apply lywI | apply lywJ | apply csI | apply csJ | apply cswI | apply cswJ); assumption)) only [SM, LI, ↓li_m1, nI_add, pk_mul, nn_sub, nn_m1, nn_div, nn_rem, nn_nz, nn_mod, nJ_l, lN_add, lN_mul, nn_tb1, nI_bt, nn_and, nn_or, nn_xor, nn_shr, nn_1shl, nn_31, il_p, il_n, it_p, it_n, ie_p, ie_n, ie_b, ie_b1, ie_m, ie_mm, it_m, it_m0, il_m0, bI_rZ, Option.bind_some, bd2_some, Nat.add_zero, Nat.zero_add, if_true, if_false, Bool.false_eq_true, eq_self, hI_R, hJ_R, ng_t, ng_e, q3, r, rz0]); try (unfold u_X12_aQuestion_c1; simp (disch := first | assumption | omega | decide | ((repeat first | apply lyI | apply lyJ | apply lywI | apply lywJ | apply csI | apply csJ | apply cswI | apply cswJ); assumption)) only [SM, LI, ↓li_m1, nI_add, pk_mul, nn_sub, nn_m1, nn_div, nn_rem, nn_nz, nn_mod, nJ_l, lN_add, lN_mul, nn_tb1, nI_bt, nn_and, nn_or, nn_xor, nn_shr, nn_1shl, nn_31, il_p, il_n, it_p, it_n, ie_p, ie_n, ie_b, ie_b1, ie_m, ie_mm, it_m, it_m0, il_m0, bI_rZ, Option.bind_some, bd2_some, Nat.add_zero, Nat.zero_add, if_true, if_false, Bool.false_eq_true, eq_self, hI_R, hJ_R, ng_t, ng_e, q3, r, rz0])
    rw [e, bd2_some, j74_0]
  rw [if_neg q12]
  have q12' : A 3 < 12 := by omega
  have nq : ¬ nI (A 3) = nI 12 := d_ne (by omega) (by decide) q12
  obtain ⟨k3, g3, f3, rc3⟩ := r_go d.2.1
  have d3 := dr_13 d f3 rc3
  have l3 := rc3.1
  have nrc : NRc k3 (cA A) := ⟨d3.2.2.2.1 0 (by decide) (by decide), d3.2.2.2.1 1 (by decide) (by decide), d3.2.2.2.1 3 (by decide) (by decide), d3.2.2.2.1 4 (by decide) (by decide)⟩
  obtain ⟨u1, u2⟩ := r_newName rc3 d3.2.2.1 nv nrc (s := 2) (by decide) q12'
  cases hb : nwB T n (i + 1) (cA A) V with
  | false =>
    rw [if_pos rfl]
    obtain ⟨k', r, f, l⟩ := u2 hb
    have r' : f_X12_newName k3 113 (nI 28) (nI (A 3)) = some (nI 0, k') := r
    refine dr_fl d3 f l ?_
    have e : f_X12_aQuestion k 113 = some (nI 0, k') := by rw [u_X12_aQuestion_e]; simp (disch := first | assumption | omega | decide | ((repeat first | apply lyI | apply lyJ | apply lywI | apply lywJ | apply csI | apply csJ | apply cswI | apply cswJ); assumption)) only [SM, LI, ↓li_m1, nI_add, pk_mul, nn_sub, nn_m1, nn_div, nn_rem, nn_nz, nn_mod, nJ_l, lN_add, lN_mul, nn_tb1, nI_bt, nn_and, nn_or, nn_xor, nn_shr, nn_1shl, nn_31, il_p, il_n, it_p, it_n, ie_p, ie_n, ie_b, ie_b1, ie_m, ie_mm, it_m, it_m0, il_m0, bI_rZ, Option.bind_some, bd2_some, Nat.add_zero, Nat.zero_add, if_true, if_false, Bool.false_eq_true, eq_self, hI_R, hJ_R, ng_t, ng_e, q3, if_neg nq, g3, r']; try (unfold u_X12_aQuestion_c3; simp (disch := first | assumption | omega | decide | ((repeat first | apply lyI | apply lyJ | apply lywI | apply lywJ | apply csI | apply csJ | apply cswI | apply cswJ); assumption)) only [SM, LI, ↓li_m1, nI_add, pk_mul, nn_sub, nn_m1, nn_div, nn_rem, nn_nz, nn_mod, nJ_l, lN_add, lN_mul, nn_tb1, nI_bt, nn_and, nn_or, nn_xor, nn_shr, nn_1shl, nn_31, il_p, il_n, it_p, it_n, ie_p, ie_n, ie_b, ie_b1, ie_m, ie_mm, it_m, it_m0, il_m0, bI_rZ, Option.bind_some, bd2_some, Nat.add_zero, Nat.zero_add, if_true, if_false, Bool.false_eq_true, eq_self, hI_R, hJ_R, ng_t, ng_e, q3, if_neg nq, g3, r']); try (unfold u_X12_aQuestion_c2; simp (disch := first | assumption | omega | decide | ((repeat first | apply lyI | apply lyJ | apply lywI | apply lywJ | apply csI | apply csJ | apply cswI | apply cswJ); assumption)) only [SM, LI, ↓li_m1, nI_add, pk_mul, nn_sub, nn_m1, nn_div, nn_rem, nn_nz, nn_mod, nJ_l, lN_add, lN_mul, nn_tb1, nI_bt, nn_and, nn_or, nn_xor, nn_shr, nn_1shl, nn_31, il_p, il_n, it_p, it_n, ie_p, ie_n, ie_b, ie_b1, ie_m, ie_mm, it_m, it_m0, il_m0, bI_rZ, Option.bind_some, bd2_some, Nat.add_zero, Nat.zero_add, if_true, if_false, Bool.false_eq_true, eq_self, hI_R, hJ_R, ng_t, ng_e, q3, if_neg nq, g3, r']); try (unfold u_X12_aQuestion_c1; simp (disch := first | assumption | omega | decide | ((repeat first | apply lyI | apply lyJ | apply lywI | apply lywJ | apply csI | apply csJ | apply cswI | apply cswJ); assumption)) only [SM, LI, ↓li_m1, nI_add, pk_mul, nn_sub, nn_m1, nn_div, nn_rem, nn_nz, nn_mod, nJ_l, lN_add, lN_mul, nn_tb1, nI_bt, nn_and, nn_or, nn_xor, nn_shr, nn_1shl, nn_31, il_p, il_n, it_p, it_n, ie_p, ie_n, ie_b, ie_b1, ie_m, ie_mm, it_m, it_m0, il_m0, bI_rZ, Option.bind_some, bd2_some, Nat.add_zero, Nat.zero_add, if_true, if_false, Bool.false_eq_true, eq_self, hI_R, hJ_R, ng_t, ng_e, q3, if_neg nq, g3, r'])
    rw [e, bd2_some, j74_0]
  | true =>
    rw [if_neg (by decide)]
    obtain ⟨k5, r5, f5, rc5, nr5⟩ := u1 hb
    have r5' : f_X12_newName k3 113 (nI 28) (nI (A 3)) = some (nI 1, k5) := r5
    have d5 := drm_nm (dr_m d3) f5 rc5 nr5
    have l5 := rc5.1
    rw [show i + 1 + 1 = i + 2 from rfl] at d5 rc5
    obtain ⟨w1, w2⟩ := r_wantW rc5 (q := 4) (by decide)
    by_cases t6 : tcI T n (i + 2) = 12
    · rw [if_neg (fun e => e t6)]
      obtain ⟨k6, r6, f6, rc6⟩ := w1 t6
      have r6' : f_X12_wantWord k5 113 1 (nI 5) = some (nI 1, k6) := r6
      have d6 := drm_13 d5 f6 rc6
      have l6 := rc6.1
      obtain ⟨x1, x2⟩ := r_number rc6 (to := 1664 + A 3) (lo := 0) (hi := 99) (by decide) (by decide) (by omega)
      by_cases t8 : tcI T n (i + 3) = 2 ∧ 0 ≤ nuI T n (i + 3) ∧ nuI T n (i + 3) ≤ 99
      · rw [if_neg (fun e => e t8)]
        obtain ⟨k7, r7, f7, rc7⟩ := x1 t8
        have l7 := rc7.1
        have d7 : DRm k0 k7 T n (i + 4) (fA A (nuI T n (i + 3))) (upC (cA A) 2) (upV V (nbN 2 + cA A 2) (wdI T n (i + 1))) Bv Q := by
          have := drm_at (A' := fA A (nuI T n (i + 3))) d6 (j := 64 + A 3) (x := nuI T n (i + 3)) (by omega) (by omega) (if_pos rfl) (fun y hy => if_neg hy) (fun h => ⟨by rw [show fA A (nuI T n (i + 3)) 3 = A 3 from if_neg (by omega)] at h; exact h, fun w => ag_cn (fun x hx h3 => if_neg (by omega)) b0⟩)
          rw [show 1600 + (64 + A 3) = 1664 + A 3 by omega] at this
          exact drm_13 this f7 rc7
        obtain ⟨y1, y2⟩ := r_wantW rc7 (q := 5) (by decide)
        by_cases t9 : tcI T n (i + 4) = 13
        · rw [if_neg (fun e => e t9)]
          obtain ⟨k8, r8, f8, rc8⟩ := y1 t9
          have r8' : f_X12_wantWord k7 113 1 (nI 6) = some (nI 1, k8) := r8
          have d8 := drm_13 d7 f8 rc8
          have l8 := rc8.1
          have i1 := ht i hi (by omega)
          have t1 : tcI T n (i + 1) = 6 := by
            unfold nwB at hb
            rw [Bool.and_eq_true, decide_eq_true_eq] at hb
            exact hb.1
          have i2 := ht (i + 1) (by omega) (by omega)
          have i3 := ht (i + 2) (by omega) (by omega)
          have i4 := ht (i + 3) (by omega) (by have := t8.1; omega)
          have i5 := ht (i + 4) (by omega) (by omega)
          obtain ⟨nv', dv'⟩ := dv_q dv q12' (fe := nuI T n (i + 3)) t8.2.2 hb
          have ag := qa_ag (A := A) (fe := nuI T n (i + 3))
          have wf' := (dv' (fun _ => true)).1
          have ak : ATn k8 (qA A (nuI T n (i + 3))) := fun x hx h3 => by
            rw [d8.2.2.2.1 x (by omega) (by omega), show fA A (nuI T n (i + 3)) x = A x from if_neg (by omega), ag x hx h3]
          have nr8 : NRe k8 176 (cA (qA A (nuI T n (i + 3)))) (qV T n (i + 1) A V) := by
            rw [qa_cA]
            exact d8.2.2.1
          have cnl : ∀ w, cnP (qA A (nuI T n (i + 3))) Bv w = true → w < qA A (nuI T n (i + 3)) 2 := fun w hw => by
            unfold cnP at hw
            rw [Bool.and_eq_true, decide_eq_true_eq] at hw
            exact hw.1
          have cd := r_cond (i := i + 5) rc8 hm ht (by omega) ak wf' nr8 nv' rfl cnl
          cases hp : pEi T n (pOn T n (qA A (nuI T n (i + 3))) (cA (qA A (nuI T n (i + 3)))) (qV T n (i + 1) A V) 8 0) (i + 5) with
          | inl e =>
            obtain ⟨a, b⟩ := e
            rw [hp] at cd
            obtain ⟨k', r, f, l⟩ := cd
            have e : f_X12_aQuestion k 113 = some (nI 0, k') := by rw [u_X12_aQuestion_e]; simp (disch := first | assumption | omega | decide | ((repeat first | apply lyI | apply lyJ | apply lywI | apply lywJ | apply csI | apply csJ | apply cswI | apply cswJ); assumption)) only [SM, LI, ↓li_m1, nI_add, pk_mul, nn_sub, nn_m1, nn_div, nn_rem, nn_nz, nn_mod, nJ_l, lN_add, lN_mul, nn_tb1, nI_bt, nn_and, nn_or, nn_xor, nn_shr, nn_1shl, nn_31, il_p, il_n, it_p, it_n, ie_p, ie_n, ie_b, ie_b1, ie_m, ie_mm, it_m, it_m0, il_m0, bI_rZ, Option.bind_some, bd2_some, Nat.add_zero, Nat.zero_add, if_true, if_false, Bool.false_eq_true, eq_self, hI_R, hJ_R, ng_t, ng_e, q3, if_neg nq, g3, r5', r6', r7, r8', r]; try (unfold u_X12_aQuestion_c3; simp (disch := first | assumption | omega | decide | ((repeat first | apply lyI | apply lyJ | apply lywI | apply lywJ | apply csI | apply csJ | apply cswI | apply cswJ); assumption)) only [SM, LI, ↓li_m1, nI_add, pk_mul, nn_sub, nn_m1, nn_div, nn_rem, nn_nz, nn_mod, nJ_l, lN_add, lN_mul, nn_tb1, nI_bt, nn_and, nn_or, nn_xor, nn_shr, nn_1shl, nn_31, il_p, il_n, it_p, it_n, ie_p, ie_n, ie_b, ie_b1, ie_m, ie_mm, it_m, it_m0, il_m0, bI_rZ, Option.bind_some, bd2_some, Nat.add_zero, Nat.zero_add, if_true, if_false, Bool.false_eq_true, eq_self, hI_R, hJ_R, ng_t, ng_e, q3, if_neg nq, g3, r5', r6', r7, r8', r]); try (unfold u_X12_aQuestion_c2; simp (disch := first | assumption | omega | decide | ((repeat first | apply lyI | apply lyJ | apply lywI | apply lywJ | apply csI | apply csJ | apply cswI | apply cswJ); assumption)) only [SM, LI, ↓li_m1, nI_add, pk_mul, nn_sub, nn_m1, nn_div, nn_rem, nn_nz, nn_mod, nJ_l, lN_add, lN_mul, nn_tb1, nI_bt, nn_and, nn_or, nn_xor, nn_shr, nn_1shl, nn_31, il_p, il_n, it_p, it_n, ie_p, ie_n, ie_b, ie_b1, ie_m, ie_mm, it_m, it_m0, il_m0, bI_rZ, Option.bind_some, bd2_some, Nat.add_zero, Nat.zero_add, if_true, if_false, Bool.false_eq_true, eq_self, hI_R, hJ_R, ng_t, ng_e, q3, if_neg nq, g3, r5', r6', r7, r8', r]); try (unfold u_X12_aQuestion_c1; simp (disch := first | assumption | omega | decide | ((repeat first | apply lyI | apply lyJ | apply lywI | apply lywJ | apply csI | apply csJ | apply cswI | apply cswJ); assumption)) only [SM, LI, ↓li_m1, nI_add, pk_mul, nn_sub, nn_m1, nn_div, nn_rem, nn_nz, nn_mod, nJ_l, lN_add, lN_mul, nn_tb1, nI_bt, nn_and, nn_or, nn_xor, nn_shr, nn_1shl, nn_31, il_p, il_n, it_p, it_n, ie_p, ie_n, ie_b, ie_b1, ie_m, ie_mm, it_m, it_m0, il_m0, bI_rZ, Option.bind_some, bd2_some, Nat.add_zero, Nat.zero_add, if_true, if_false, Bool.false_eq_true, eq_self, hI_R, hJ_R, ng_t, ng_e, q3, if_neg nq, g3, r5', r6', r7, r8', r])
            refine ⟨k', by rw [e, bd2_some, j74_0], ?_, l⟩
            obtain ⟨p1, p2, p3, p4⟩ := d8.1
            exact ⟨p1.tr (f.mono (by decide) (by decide) (by decide) (by decide)), fun y hy => by rw [f.I 114 (by decide) (by decide) (by decide)]; exact p2 y hy, fun y hy => by rw [f.J 115 (by decide)]; exact p3 y hy, fun y hy => by rw [f.J 116 (by decide)]; exact p4 y hy⟩
          | inr e =>
            obtain ⟨i', S⟩ := e
            rw [hp] at cd
            obtain ⟨k9, r9, f9, rc9, s9⟩ := cd
            have l9 := rc9.1
            have fr9 : FRR k0 k9 := by
              obtain ⟨p1, p2, p3, p4⟩ := d8.1
              exact ⟨p1.tr (f9.mono (by decide) (by decide) (by decide) (by decide)), fun y hy => by rw [f9.I 114 (by decide) (by decide) (by decide)]; exact p2 y hy, fun y hy => by rw [f9.J 115 (by decide)]; exact p3 y hy, fun y hy => by rw [f9.J 116 (by decide)]; exact p4 y hy⟩
            have nr9 := nr_fr f9 (by decide) nr8
            obtain ⟨-, -, -, m4, m5, m6, m7, m8⟩ := d8
            rw [← f9.I 114 (by decide) (by decide) (by decide)] at m4 m5
            rw [← f9.I 122 (by decide) (by decide) (by decide)] at m6
            rw [← f9.J 115 (by decide)] at m7 m8
            have s9' : ∀ w, w < 256 → cnP A Bv w = true → (k9.2.2.1 123 (w / 64)).toBitVec.getLsbD (w % 64) = S w := fun w hw hc => s9 w hw (by rw [ag_cn ag b0]; exact hc)
            have main : ∃ k', f_X12_aQuestion k 113 = some (nI 1, k') ∧ DR k0 k' T n i' (qA A (nuI T n (i + 3))) (qV T n (i + 1) A V) Bv (qQ A Bv Q S) := by
              by_cases z3 : A 3 = 0
              · obtain ⟨k10, e10, f10, o10, c10⟩ := r_finds l9 (A := qA A (nuI T n (i + 3))) (Bv := Bv) (at_fr f9 (by decide) ak) wf' m6 bb
                have l10 := f10.lay l9
                obtain ⟨p1, p2, p3, p4⟩ := fr9
                obtain ⟨k11, e11, dd⟩ := r_q7 (k := k10) (S := S) (Q := Q) (Bv := Bv) (fe := nuI T n (i + 3)) wf q12' zq ⟨p1.tr (f10.mono (by decide) (by decide) (by decide) (by decide)), fun y hy => by rw [f10.I 114 (by decide) (by decide) (by decide)]; exact p2 y hy, fun y hy => by rw [o10 y (by omega)]; exact p3 y hy, fun y hy => by rw [f10.J 116 (by decide)]; exact p4 y hy⟩ (rc_fr f10 (by decide) (by decide) rc9) (nr_fr f10 (by decide) nr9) (by rw [f10.I 114 (by decide) (by decide) (by decide)]; exact m4) (by rw [f10.I 114 (by decide) (by decide) (by decide)]; exact m5) (by rw [f10.I 122 (by decide) (by decide) (by decide)]; exact m6) (fun w hw => by have := c10 w hw; rw [ag_cn ag b0] at this; exact this) (fun q w hq hw => by rw [o10 _ (by omega)]; exact m8 q w hq hw) (by rw [f10.J 123 (by decide)]; exact s9')
                rw [z3] at q3 r5' e11
                rw [z3, Nat.add_zero] at r7
                exact ⟨k11, by rw [u_X12_aQuestion_e]; simp (disch := first | assumption | omega | decide | ((repeat first | apply lyI | apply lyJ | apply lywI | apply lywJ | apply csI | apply csJ | apply cswI | apply cswJ); assumption)) only [SM, LI, ↓li_m1, nI_add, pk_mul, nn_sub, nn_m1, nn_div, nn_rem, nn_nz, nn_mod, nJ_l, lN_add, lN_mul, nn_tb1, nI_bt, nn_and, nn_or, nn_xor, nn_shr, nn_1shl, nn_31, il_p, il_n, it_p, it_n, ie_p, ie_n, ie_b, ie_b1, ie_m, ie_mm, it_m, it_m0, il_m0, bI_rZ, Option.bind_some, bd2_some, Nat.add_zero, Nat.zero_add, if_true, if_false, Bool.false_eq_true, eq_self, hI_R, hJ_R, ng_t, ng_e, q3, g3, r5', r6', r7, r8', r9, e10, e11]; try (unfold u_X12_aQuestion_c3; simp (disch := first | assumption | omega | decide | ((repeat first | apply lyI | apply lyJ | apply lywI | apply lywJ | apply csI | apply csJ | apply cswI | apply cswJ); assumption)) only [SM, LI, ↓li_m1, nI_add, pk_mul, nn_sub, nn_m1, nn_div, nn_rem, nn_nz, nn_mod, nJ_l, lN_add, lN_mul, nn_tb1, nI_bt, nn_and, nn_or, nn_xor, nn_shr, nn_1shl, nn_31, il_p, il_n, it_p, it_n, ie_p, ie_n, ie_b, ie_b1, ie_m, ie_mm, it_m, it_m0, il_m0, bI_rZ, Option.bind_some, bd2_some, Nat.add_zero, Nat.zero_add, if_true, if_false, Bool.false_eq_true, eq_self, hI_R, hJ_R, ng_t, ng_e, q3, g3, r5', r6', r7, r8', r9, e10, e11]); try (unfold u_X12_aQuestion_c2; simp (disch := first | assumption | omega | decide | ((repeat first | apply lyI | apply lyJ | apply lywI | apply lywJ | apply csI | apply csJ | apply cswI | apply cswJ); assumption)) only [SM, LI, ↓li_m1, nI_add, pk_mul, nn_sub, nn_m1, nn_div, nn_rem, nn_nz, nn_mod, nJ_l, lN_add, lN_mul, nn_tb1, nI_bt, nn_and, nn_or, nn_xor, nn_shr, nn_1shl, nn_31, il_p, il_n, it_p, it_n, ie_p, ie_n, ie_b, ie_b1, ie_m, ie_mm, it_m, it_m0, il_m0, bI_rZ, Option.bind_some, bd2_some, Nat.add_zero, Nat.zero_add, if_true, if_false, Bool.false_eq_true, eq_self, hI_R, hJ_R, ng_t, ng_e, q3, g3, r5', r6', r7, r8', r9, e10, e11]); try (unfold u_X12_aQuestion_c1; simp (disch := first | assumption | omega | decide | ((repeat first | apply lyI | apply lyJ | apply lywI | apply lywJ | apply csI | apply csJ | apply cswI | apply cswJ); assumption)) only [SM, LI, ↓li_m1, nI_add, pk_mul, nn_sub, nn_m1, nn_div, nn_rem, nn_nz, nn_mod, nJ_l, lN_add, lN_mul, nn_tb1, nI_bt, nn_and, nn_or, nn_xor, nn_shr, nn_1shl, nn_31, il_p, il_n, it_p, it_n, ie_p, ie_n, ie_b, ie_b1, ie_m, ie_mm, it_m, it_m0, il_m0, bI_rZ, Option.bind_some, bd2_some, Nat.add_zero, Nat.zero_add, if_true, if_false, Bool.false_eq_true, eq_self, hI_R, hJ_R, ng_t, ng_e, q3, g3, r5', r6', r7, r8', r9, e10, e11]), dd⟩
              · have nz0 : ¬ nI (A 3) = nI 0 := d_ne (by omega) (by decide) z3
                obtain ⟨k11, e11, dd⟩ := r_q7 (k := k9) (S := S) (Q := Q) (Bv := Bv) (fe := nuI T n (i + 3)) wf q12' zq fr9 rc9 nr9 m4 m5 m6 (fun w hw => by
                  have := m7 (by rw [show fA A (nuI T n (i + 3)) 3 = A 3 from if_neg (by omega)]; omega) w hw
                  rw [this]
                  exact ag_cn (fun x hx h3 => if_neg (by omega)) b0) m8 s9'
                exact ⟨k11, by rw [u_X12_aQuestion_e]; simp (disch := first | assumption | omega | decide | ((repeat first | apply lyI | apply lyJ | apply lywI | apply lywJ | apply csI | apply csJ | apply cswI | apply cswJ); assumption)) only [SM, LI, ↓li_m1, nI_add, pk_mul, nn_sub, nn_m1, nn_div, nn_rem, nn_nz, nn_mod, nJ_l, lN_add, lN_mul, nn_tb1, nI_bt, nn_and, nn_or, nn_xor, nn_shr, nn_1shl, nn_31, il_p, il_n, it_p, it_n, ie_p, ie_n, ie_b, ie_b1, ie_m, ie_mm, it_m, it_m0, il_m0, bI_rZ, Option.bind_some, bd2_some, Nat.add_zero, Nat.zero_add, if_true, if_false, Bool.false_eq_true, eq_self, hI_R, hJ_R, ng_t, ng_e, q3, if_neg nq, if_neg nz0, g3, r5', r6', r7, r8', r9, e11]; try (unfold u_X12_aQuestion_c3; simp (disch := first | assumption | omega | decide | ((repeat first | apply lyI | apply lyJ | apply lywI | apply lywJ | apply csI | apply csJ | apply cswI | apply cswJ); assumption)) only [SM, LI, ↓li_m1, nI_add, pk_mul, nn_sub, nn_m1, nn_div, nn_rem, nn_nz, nn_mod, nJ_l, lN_add, lN_mul, nn_tb1, nI_bt, nn_and, nn_or, nn_xor, nn_shr, nn_1shl, nn_31, il_p, il_n, it_p, it_n, ie_p, ie_n, ie_b, ie_b1, ie_m, ie_mm, it_m, it_m0, il_m0, bI_rZ, Option.bind_some, bd2_some, Nat.add_zero, Nat.zero_add, if_true, if_false, Bool.false_eq_true, eq_self, hI_R, hJ_R, ng_t, ng_e, q3, if_neg nq, if_neg nz0, g3, r5', r6', r7, r8', r9, e11]); try (unfold u_X12_aQuestion_c2; simp (disch := first | assumption | omega | decide | ((repeat first | apply lyI | apply lyJ | apply lywI | apply lywJ | apply csI | apply csJ | apply cswI | apply cswJ); assumption)) only [SM, LI, ↓li_m1, nI_add, pk_mul, nn_sub, nn_m1, nn_div, nn_rem, nn_nz, nn_mod, nJ_l, lN_add, lN_mul, nn_tb1, nI_bt, nn_and, nn_or, nn_xor, nn_shr, nn_1shl, nn_31, il_p, il_n, it_p, it_n, ie_p, ie_n, ie_b, ie_b1, ie_m, ie_mm, it_m, it_m0, il_m0, bI_rZ, Option.bind_some, bd2_some, Nat.add_zero, Nat.zero_add, if_true, if_false, Bool.false_eq_true, eq_self, hI_R, hJ_R, ng_t, ng_e, q3, if_neg nq, if_neg nz0, g3, r5', r6', r7, r8', r9, e11]); try (unfold u_X12_aQuestion_c1; simp (disch := first | assumption | omega | decide | ((repeat first | apply lyI | apply lyJ | apply lywI | apply lywJ | apply csI | apply csJ | apply cswI | apply cswJ); assumption)) only [SM, LI, ↓li_m1, nI_add, pk_mul, nn_sub, nn_m1, nn_div, nn_rem, nn_nz, nn_mod, nJ_l, lN_add, lN_mul, nn_tb1, nI_bt, nn_and, nn_or, nn_xor, nn_shr, nn_1shl, nn_31, il_p, il_n, it_p, it_n, ie_p, ie_n, ie_b, ie_b1, ie_m, ie_mm, it_m, it_m0, il_m0, bI_rZ, Option.bind_some, bd2_some, Nat.add_zero, Nat.zero_add, if_true, if_false, Bool.false_eq_true, eq_self, hI_R, hJ_R, ng_t, ng_e, q3, if_neg nq, if_neg nz0, g3, r5', r6', r7, r8', r9, e11]), dd⟩
            obtain ⟨k12, e12, dd⟩ := main
            rw [e12, bd2_some]
            exact r_smD dd
        · rw [if_pos t9]
          obtain ⟨k', r, f, l⟩ := y2 t9
          have r' : f_X12_wantWord k7 113 1 (nI 6) = some (nI 0, k') := r
          have e : f_X12_aQuestion k 113 = some (nI 0, k') := by rw [u_X12_aQuestion_e]; simp (disch := first | assumption | omega | decide | ((repeat first | apply lyI | apply lyJ | apply lywI | apply lywJ | apply csI | apply csJ | apply cswI | apply cswJ); assumption)) only [SM, LI, ↓li_m1, nI_add, pk_mul, nn_sub, nn_m1, nn_div, nn_rem, nn_nz, nn_mod, nJ_l, lN_add, lN_mul, nn_tb1, nI_bt, nn_and, nn_or, nn_xor, nn_shr, nn_1shl, nn_31, il_p, il_n, it_p, it_n, ie_p, ie_n, ie_b, ie_b1, ie_m, ie_mm, it_m, it_m0, il_m0, bI_rZ, Option.bind_some, bd2_some, Nat.add_zero, Nat.zero_add, if_true, if_false, Bool.false_eq_true, eq_self, hI_R, hJ_R, ng_t, ng_e, q3, if_neg nq, g3, r5', r6', r7, r']; try (unfold u_X12_aQuestion_c3; simp (disch := first | assumption | omega | decide | ((repeat first | apply lyI | apply lyJ | apply lywI | apply lywJ | apply csI | apply csJ | apply cswI | apply cswJ); assumption)) only [SM, LI, ↓li_m1, nI_add, pk_mul, nn_sub, nn_m1, nn_div, nn_rem, nn_nz, nn_mod, nJ_l, lN_add, lN_mul, nn_tb1, nI_bt, nn_and, nn_or, nn_xor, nn_shr, nn_1shl, nn_31, il_p, il_n, it_p, it_n, ie_p, ie_n, ie_b, ie_b1, ie_m, ie_mm, it_m, it_m0, il_m0, bI_rZ, Option.bind_some, bd2_some, Nat.add_zero, Nat.zero_add, if_true, if_false, Bool.false_eq_true, eq_self, hI_R, hJ_R, ng_t, ng_e, q3, if_neg nq, g3, r5', r6', r7, r']); try (unfold u_X12_aQuestion_c2; simp (disch := first | assumption | omega | decide | ((repeat first | apply lyI | apply lyJ | apply lywI | apply lywJ | apply csI | apply csJ | apply cswI | apply cswJ); assumption)) only [SM, LI, ↓li_m1, nI_add, pk_mul, nn_sub, nn_m1, nn_div, nn_rem, nn_nz, nn_mod, nJ_l, lN_add, lN_mul, nn_tb1, nI_bt, nn_and, nn_or, nn_xor, nn_shr, nn_1shl, nn_31, il_p, il_n, it_p, it_n, ie_p, ie_n, ie_b, ie_b1, ie_m, ie_mm, it_m, it_m0, il_m0, bI_rZ, Option.bind_some, bd2_some, Nat.add_zero, Nat.zero_add, if_true, if_false, Bool.false_eq_true, eq_self, hI_R, hJ_R, ng_t, ng_e, q3, if_neg nq, g3, r5', r6', r7, r']); try (unfold u_X12_aQuestion_c1; simp (disch := first | assumption | omega | decide | ((repeat first | apply lyI | apply lyJ | apply lywI | apply lywJ | apply csI | apply csJ | apply cswI | apply cswJ); assumption)) only [SM, LI, ↓li_m1, nI_add, pk_mul, nn_sub, nn_m1, nn_div, nn_rem, nn_nz, nn_mod, nJ_l, lN_add, lN_mul, nn_tb1, nI_bt, nn_and, nn_or, nn_xor, nn_shr, nn_1shl, nn_31, il_p, il_n, it_p, it_n, ie_p, ie_n, ie_b, ie_b1, ie_m, ie_mm, it_m, it_m0, il_m0, bI_rZ, Option.bind_some, bd2_some, Nat.add_zero, Nat.zero_add, if_true, if_false, Bool.false_eq_true, eq_self, hI_R, hJ_R, ng_t, ng_e, q3, if_neg nq, g3, r5', r6', r7, r'])
          exact drm_fl d7 f l (by rw [e, bd2_some, j74_0])
      · rw [if_pos t8]
        obtain ⟨k', r, f, l⟩ := x2 t8
        have e : f_X12_aQuestion k 113 = some (nI 0, k') := by rw [u_X12_aQuestion_e]; simp (disch := first | assumption | omega | decide | ((repeat first | apply lyI | apply lyJ | apply lywI | apply lywJ | apply csI | apply csJ | apply cswI | apply cswJ); assumption)) only [SM, LI, ↓li_m1, nI_add, pk_mul, nn_sub, nn_m1, nn_div, nn_rem, nn_nz, nn_mod, nJ_l, lN_add, lN_mul, nn_tb1, nI_bt, nn_and, nn_or, nn_xor, nn_shr, nn_1shl, nn_31, il_p, il_n, it_p, it_n, ie_p, ie_n, ie_b, ie_b1, ie_m, ie_mm, it_m, it_m0, il_m0, bI_rZ, Option.bind_some, bd2_some, Nat.add_zero, Nat.zero_add, if_true, if_false, Bool.false_eq_true, eq_self, hI_R, hJ_R, ng_t, ng_e, q3, if_neg nq, g3, r5', r6', r]; try (unfold u_X12_aQuestion_c3; simp (disch := first | assumption | omega | decide | ((repeat first | apply lyI | apply lyJ | apply lywI | apply lywJ | apply csI | apply csJ | apply cswI | apply cswJ); assumption)) only [SM, LI, ↓li_m1, nI_add, pk_mul, nn_sub, nn_m1, nn_div, nn_rem, nn_nz, nn_mod, nJ_l, lN_add, lN_mul, nn_tb1, nI_bt, nn_and, nn_or, nn_xor, nn_shr, nn_1shl, nn_31, il_p, il_n, it_p, it_n, ie_p, ie_n, ie_b, ie_b1, ie_m, ie_mm, it_m, it_m0, il_m0, bI_rZ, Option.bind_some, bd2_some, Nat.add_zero, Nat.zero_add, if_true, if_false, Bool.false_eq_true, eq_self, hI_R, hJ_R, ng_t, ng_e, q3, if_neg nq, g3, r5', r6', r]); try (unfold u_X12_aQuestion_c2; simp (disch := first | assumption | omega | decide | ((repeat first | apply lyI | apply lyJ | apply lywI | apply lywJ | apply csI | apply csJ | apply cswI | apply cswJ); assumption)) only [SM, LI, ↓li_m1, nI_add, pk_mul, nn_sub, nn_m1, nn_div, nn_rem, nn_nz, nn_mod, nJ_l, lN_add, lN_mul, nn_tb1, nI_bt, nn_and, nn_or, nn_xor, nn_shr, nn_1shl, nn_31, il_p, il_n, it_p, it_n, ie_p, ie_n, ie_b, ie_b1, ie_m, ie_mm, it_m, it_m0, il_m0, bI_rZ, Option.bind_some, bd2_some, Nat.add_zero, Nat.zero_add, if_true, if_false, Bool.false_eq_true, eq_self, hI_R, hJ_R, ng_t, ng_e, q3, if_neg nq, g3, r5', r6', r]); try (unfold u_X12_aQuestion_c1; simp (disch := first | assumption | omega | decide | ((repeat first | apply lyI | apply lyJ | apply lywI | apply lywJ | apply csI | apply csJ | apply cswI | apply cswJ); assumption)) only [SM, LI, ↓li_m1, nI_add, pk_mul, nn_sub, nn_m1, nn_div, nn_rem, nn_nz, nn_mod, nJ_l, lN_add, lN_mul, nn_tb1, nI_bt, nn_and, nn_or, nn_xor, nn_shr, nn_1shl, nn_31, il_p, il_n, it_p, it_n, ie_p, ie_n, ie_b, ie_b1, ie_m, ie_mm, it_m, it_m0, il_m0, bI_rZ, Option.bind_some, bd2_some, Nat.add_zero, Nat.zero_add, if_true, if_false, Bool.false_eq_true, eq_self, hI_R, hJ_R, ng_t, ng_e, q3, if_neg nq, g3, r5', r6', r])
        exact drm_fl d6 f l (by rw [e, bd2_some, j74_0])
    · rw [if_pos t6]
      obtain ⟨k', r, f, l⟩ := w2 t6
      have r' : f_X12_wantWord k5 113 1 (nI 5) = some (nI 0, k') := r
      have e : f_X12_aQuestion k 113 = some (nI 0, k') := by rw [u_X12_aQuestion_e]; simp (disch := first | assumption | omega | decide | ((repeat first | apply lyI | apply lyJ | apply lywI | apply lywJ | apply csI | apply csJ | apply cswI | apply cswJ); assumption)) only [SM, LI, ↓li_m1, nI_add, pk_mul, nn_sub, nn_m1, nn_div, nn_rem, nn_nz, nn_mod, nJ_l, lN_add, lN_mul, nn_tb1, nI_bt, nn_and, nn_or, nn_xor, nn_shr, nn_1shl, nn_31, il_p, il_n, it_p, it_n, ie_p, ie_n, ie_b, ie_b1, ie_m, ie_mm, it_m, it_m0, il_m0, bI_rZ, Option.bind_some, bd2_some, Nat.add_zero, Nat.zero_add, if_true, if_false, Bool.false_eq_true, eq_self, hI_R, hJ_R, ng_t, ng_e, q3, if_neg nq, g3, r5', r']; try (unfold u_X12_aQuestion_c3; simp (disch := first | assumption | omega | decide | ((repeat first | apply lyI | apply lyJ | apply lywI | apply lywJ | apply csI | apply csJ | apply cswI | apply cswJ); assumption)) only [SM, LI, ↓li_m1, nI_add, pk_mul, nn_sub, nn_m1, nn_div, nn_rem, nn_nz, nn_mod, nJ_l, lN_add, lN_mul, nn_tb1, nI_bt, nn_and, nn_or, nn_xor, nn_shr, nn_1shl, nn_31, il_p, il_n, it_p, it_n, ie_p, ie_n, ie_b, ie_b1, ie_m, ie_mm, it_m, it_m0, il_m0, bI_rZ, Option.bind_some, bd2_some, Nat.add_zero, Nat.zero_add, if_true, if_false, Bool.false_eq_true, eq_self, hI_R, hJ_R, ng_t, ng_e, q3, if_neg nq, g3, r5', r']); try (unfold u_X12_aQuestion_c2; simp (disch := first | assumption | omega | decide | ((repeat first | apply lyI | apply lyJ | apply lywI | apply lywJ | apply csI | apply csJ | apply cswI | apply cswJ); assumption)) only [SM, LI, ↓li_m1, nI_add, pk_mul, nn_sub, nn_m1, nn_div, nn_rem, nn_nz, nn_mod, nJ_l, lN_add, lN_mul, nn_tb1, nI_bt, nn_and, nn_or, nn_xor, nn_shr, nn_1shl, nn_31, il_p, il_n, it_p, it_n, ie_p, ie_n, ie_b, ie_b1, ie_m, ie_mm, it_m, it_m0, il_m0, bI_rZ, Option.bind_some, bd2_some, Nat.add_zero, Nat.zero_add, if_true, if_false, Bool.false_eq_true, eq_self, hI_R, hJ_R, ng_t, ng_e, q3, if_neg nq, g3, r5', r']); try (unfold u_X12_aQuestion_c1; simp (disch := first | assumption | omega | decide | ((repeat first | apply lyI | apply lyJ | apply lywI | apply lywJ | apply csI | apply csJ | apply cswI | apply cswJ); assumption)) only [SM, LI, ↓li_m1, nI_add, pk_mul, nn_sub, nn_m1, nn_div, nn_rem, nn_nz, nn_mod, nJ_l, lN_add, lN_mul, nn_tb1, nI_bt, nn_and, nn_or, nn_xor, nn_shr, nn_1shl, nn_31, il_p, il_n, it_p, it_n, ie_p, ie_n, ie_b, ie_b1, ie_m, ie_mm, it_m, it_m0, il_m0, bI_rZ, Option.bind_some, bd2_some, Nat.add_zero, Nat.zero_add, if_true, if_false, Bool.false_eq_true, eq_self, hI_R, hJ_R, ng_t, ng_e, q3, if_neg nq, g3, r5', r'])
      exact drm_fl d5 f l (by rw [e, bd2_some, j74_0])
theorem qO_lt {T : Nat → Nat} {n m i : Nat} {A : Nat → Nat} {V : Nat → List Nat} {Bv : Nat → Nat} {Q : Nat → Nat → Bool} (hm : m ≤ 900) (ht : ∀ i, i ≤ m → 2 ≤ tcI T n i → i < m) (hi : i ≤ m) (t : tcI T n i = 11) {i' : Nat} {r : (Nat → Nat) × (Nat → List Nat) × (Nat → Nat) × (Nat → Nat → Bool)} (e : qO T n i A V Bv Q = .inr (i', r)) : i < i' := by
  unfold qO at e
  by_cases q12 : A 3 = 12
  · rw [if_pos q12] at e; cases e
  rw [if_neg q12] at e
  cases hb : nwB T n (i + 1) (cA A) V with
  | false => rw [if_pos hb] at e; cases e
  | true =>
    rw [if_neg (by rw [hb]; decide)] at e
    by_cases t6 : tcI T n (i + 2) = 12
    · rw [if_neg (fun e => e t6)] at e
      by_cases t8 : tcI T n (i + 3) = 2 ∧ 0 ≤ nuI T n (i + 3) ∧ nuI T n (i + 3) ≤ 99
      · rw [if_neg (fun e => e t8)] at e
        by_cases t9 : tcI T n (i + 4) = 13
        · rw [if_neg (fun e => e t9)] at e
          have i1 := ht i hi (by omega)
          have t1 : tcI T n (i + 1) = 6 := by
            unfold nwB at hb
            rw [Bool.and_eq_true, decide_eq_true_eq] at hb
            exact hb.1
          have i2 := ht (i + 1) (by omega) (by omega)
          have i3 := ht (i + 2) (by omega) (by omega)
          have i4 := ht (i + 3) (by omega) (by have := t8.1; omega)
          have i5 := ht (i + 4) (by omega) (by omega)
          cases hp : pEi T n (pOn T n (qA A (nuI T n (i + 3))) (cA (qA A (nuI T n (i + 3)))) (qV T n (i + 1) A V) 8 0) (i + 5) with
          | inl e0 => rw [hp] at e; cases e
          | inr e0 =>
            obtain ⟨j, S⟩ := e0
            rw [hp] at e
            have l1 := (pe_lt hm ht (by omega) hp).1
            have l2 := smD_lt e
            omega
        · rw [if_pos t9] at e; cases e
      · rw [if_pos t8] at e; cases e
    · rw [if_pos t6] at e; cases e
theorem o_quest {h0 h : aH} {c : Nat} {T : Nat → Nat} {n m i : Nat} {A : Nat → Nat} {V : Nat → List Nat} {Bv : Nat → Nat} {Q : Nat → Nat → Bool} (d : DC h0 h c T n m i A V Bv Q) (dv : DV A V Bv Q) (t : tcI T n i = 11) : PO h0 c T n m i A V Bv Q (f_X2_readQuestion h 42) (fun k => f_X12_casePart k 113) := by
  obtain ⟨hm, ht⟩ := lx_t d.2.1
  have hi := d.2.1.2.2.2
  exact ⟨qO T n i A V Bv Q, x_quest d dv t, fun i' r e => qO_lt hm ht hi t e, fun k0 k dr => r_quest dr dv t hm ht hi⟩
