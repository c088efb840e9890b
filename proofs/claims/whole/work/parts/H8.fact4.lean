/-! ===== cases: the reference reads a fact ===== -/
theorem nre_up {k : aH} {C : Nat → Nat} {V : Nat → List Nat} (nr : NRe k 176 C V) (nv : NV C V) {w : List Nat} (vw : vdW w) {s : Nat} (s4 : s < 4) (hm : C s < nmN s) (tk : tkB C V w = false) : NRe (hJ k 116 (176 + (nbN s + C s)) (lN (c8 w))) 176 (upC C s) (upV V (nbN s + C s) w) := fun s' j hs' hj => by
  obtain ⟨nv', up⟩ := nv_up nv vw s4 hm tk
  by_cases hx : s' = s ∧ j = C s
  · obtain ⟨rfl, rfl⟩ := hx
    rw [rJ_eq]
    unfold upV
    rw [if_pos rfl]
  · have hj' : j < C s' := by
      unfold upC at hj
      by_cases e : s' = s
      · rw [if_pos e] at hj
        subst e
        have : j ≠ C s' := fun z => hx ⟨rfl, z⟩
        omega
      · rw [if_neg e] at hj
        exact hj
    have ne : nbN s' + j ≠ nbN s + C s := by
      intro e
      have b1 := nv.1 s' hs'
      rcases lt4 hs' with rfl | rfl | rfl | rfl <;> rcases lt4 s4 with rfl | rfl | rfl | rfl <;> simp [nbN, nmN] at e b1 hm hx <;> omega
    rw [rJ_nk (by omega), up s' j hs' hj']
    exact nr s' j hs' hj'
theorem ga_1 {A : Nat → Nat} {f a g : Nat} (hf : f < 4) (h : A 1 < 24) : upN (upN (upN (gA A f a) (8 + A 1) f) (32 + A 1) g) 1 (A 1 + 1) = gA (vA A f g) f a := by
  funext y
  unfold upN gA vA
  (repeat' split) <;> first | rfl | omega
theorem ga_2 {A : Nat → Nat} {f a g : Nat} (hf : f < 4) (h : A 1 < 24) : upN (gA (vA A f 1) f a) (32 + A 1) g = gA (vA A f g) f a := by
  funext y
  unfold upN gA vA
  (repeat' split) <;> first | rfl | omega
theorem ga_0 {A : Nat → Nat} : upN (upN A 0 (A 0 + 1)) (56 + A 0) (A 1) = gA A (A 0) (A 1) := by
  funext y
  unfold upN gA
  (repeat' split) <;> first | rfl | omega
theorem ga_c {A : Nat → Nat} {f a x : Nat} : upN (upN (gA A f a) (60 + f) x) 2 (A 2 * x) = cF A f a x := by
  funext y
  unfold upN gA cF
  (repeat' split) <;> first | rfl | omega
theorem ga_n {A : Nat → Nat} {f a y : Nat} (h0 : y ≠ 0) (h5 : y ≠ 56 + f) : gA A f a y = A y := by
  unfold gA
  rw [if_neg h0, if_neg h5]
def fT2 (t5 t49 : Int32) (h50 : aH) : Option (Int32 × aH) := u_X12_aFact_c2 h50 113 t5 t49
def fT (t5 : Int32) (e : aH ⊕ aH ⊕ aH ⊕ (Int32 × aH)) : Option (Int32 × aH) := u_X12_aFact_c3 e 113 t5
def OFr (k0 : aH) (T : Nat → Nat) (n : Nat) (A : Nat → Nat) (Bv : Nat → Nat) (Q : Nat → Nat → Bool) (x : Option (Int32 × aH)) (o : FO) : Prop := match o with
  | .inl (f, q) => ∃ k', x = some (nI 0, k') ∧ FRR k0 k' ∧ RLx k' f q
  | .inr (j, x', A', V') => ∃ k', x = fT2 (nI (A 0)) (nI x') k' ∧ DRm k0 k' T n j (gA A' (A 0) (A 1)) (upC (cA A') 0) V' Bv Q
theorem cln_3 {t : Nat} : (clN t = 3) ↔ t = 2 := by
  unfold clN
  by_cases h0 : t = 0
  · rw [if_pos h0]; omega
  · rw [if_neg h0]
    by_cases h1 : t = 1
    · rw [if_pos h1]; omega
    · rw [if_neg h1]
      by_cases h2 : t = 2
      · rw [if_pos h2]; omega
      · rw [if_neg h2]
        split <;> omega
theorem cln_lt {t : Nat} : clN t < 5 := by
  unfold clN
  (repeat' split) <;> omega
/-- one value -/
theorem r_val {k0 k : aH} {T : Nat → Nat} {n j : Nat} {A A' : Nat → Nat} {V : Nat → List Nat} {Bv : Nat → Nat} {Q : Nat → Nat → Bool} {x : Nat} (d : DRm k0 k T n j (gA A' (A 0) (A 1)) (upC (cA A') 0) V Bv Q) (a3 : A' 3 = 0) (a0' : A' 0 = A 0) (b24 : A' 1 < 24) (f4 : A 0 < 4) (x6 : x < 6) (nv : NV (upC (cA A') 0) V) (hb : nwB T n j (upC (cA A') 0) V = true) : (∀ a b, vO T n (A 0) x j A' V = .inl (a, b) → ∃ k', f_X12_aFact_b113 113 (nI (A 0)) (nI x) k = some (.inr (.inr (.inr (.inl k')))) ∧ FRR k0 k' ∧ RLx k' a b) ∧ ∀ j' A1 V1, vO T n (A 0) x j A' V = .inr (j', A1, V1) → ∃ k', f_X12_aFact_b113 113 (nI (A 0)) (nI x) k = some (.inl (nI (x + 1), k')) ∧ DRm k0 k' T n j' (gA A1 (A 0) (A 1)) (upC (cA A1) 0) V1 Bv Q := by
  obtain ⟨t6, tk⟩ := nw_6 hb
  have rc := d.2.1
  have kl := rc.1
  have rx := rc.2.1
  have isn := r_isN kl rx
  rw [decide_eq_true t6, bI_t] at isn
  have g1 : ∀ y, y ≠ 0 → y ≠ 56 + A 0 → gA A' (A 0) (A 1) y = A' y := fun y h0 h5 => ga_n h0 h5
  have a0 : k.2.1 114 1600 = nI (A 0 + 1) := by
    have := d.2.2.2.1 0 (by decide) (by decide)
    rw [show gA A' (A 0) (A 1) 0 = A 0 + 1 from if_pos rfl] at this
    exact this
  have a1 : k.2.1 114 1601 = nI (A' 1) := by
    have := d.2.2.2.1 1 (by decide) (by decide)
    rw [g1 1 (by decide) (by omega)] at this
    exact this
  have z3 : gA A' (A 0) (A 1) 3 = 0 := by rw [g1 3 (by decide) (by omega)]; exact a3
  have nrc : NRc k (upC (cA A') 0) := by
    refine ⟨?_, a1, ?_, ?_⟩
    · rw [a0, ← a0']
      rfl
    · have := d.2.2.2.1 3 (by decide) (by decide)
      rw [g1 3 (by decide) (by omega)] at this
      exact this
    · have := d.2.2.2.1 4 (by decide) (by decide)
      rw [g1 4 (by decide) (by omega)] at this
      exact this
  have isf := r_free kl rx t6 d.2.2.1 nv nrc
  rw [tk] at isf
  have isf' : f_X12_isFree k 113 = some (nI 1) := isf
  have nh := r_name kl rx t6
  let k1 := hJ k 116 (176 + (4 + A' 1)) (lN (c8 (wdI T n j)))
  have f1 : FR k k1 [] [116] [] [] := FR.hJ (by decide)
  have d1 : DRm k0 k1 T n j (gA A' (A 0) (A 1)) (upC (upC (cA A') 0) 1) (nV V A' (wdI T n j)) Bv Q := drm_nm d FR.rf (rc_fr f1 (by decide) (by decide) rc) (nre_up d.2.2.1 nv (wd_vd t6) (s := 1) (by decide) (show A' 1 < 24 from b24) tk)
  have d2 := drm_at (A' := upN (gA A' (A 0) (A 1)) (8 + A' 1) (A 0)) d1 (j := 8 + A' 1) (x := A 0) (by omega) (by omega) up_e (fun y hy => up_n hy) (fun h => absurd h (by rw [up_n (by omega), z3]; omega))
  have d3 := drm_at (A' := upN (upN (gA A' (A 0) (A 1)) (8 + A' 1) (A 0)) (32 + A' 1) 1) d2 (j := 32 + A' 1) (x := 1) (by omega) (by omega) up_e (fun y hy => up_n hy) (fun h => absurd h (by rw [up_n (by omega), up_n (by omega), z3]; omega))
  have d4 := drm_at (A' := upN (upN (upN (gA A' (A 0) (A 1)) (8 + A' 1) (A 0)) (32 + A' 1) 1) 1 (A' 1 + 1)) d3 (j := 1) (x := A' 1 + 1) (by omega) (by omega) up_e (fun y hy => up_n hy) (fun h => absurd h (by rw [up_n (by omega), up_n (by omega), up_n (by omega), z3]; omega))
  rw [ga_1 f4 b24, up01 (f := A 0) (g := 1) b24] at d4
  obtain ⟨k5, e5, f5, rc5⟩ := r_go d4.2.1
  have d5 := drm_13 d4 f5 rc5
  have l5 := rc5.1
  have ia : 1600 + (8 + A' 1) = 1608 + A' 1 := by omega
  have ib : 1600 + (32 + A' 1) = 1632 + A' 1 := by omega
  have ic : 176 + (4 + A' 1) = 180 + A' 1 := by omega
  have e5' : f_X12_ahead (hI (hI (hI (hJ k 116 (180 + A' 1) (lN (c8 (wdI T n j)))) 114 (1608 + A' 1) (nI (A 0))) 114 (1632 + A' 1) (nI 1)) 114 1601 (nI (A' 1 + 1))) 113 = some k5 := by
    rw [← ia, ← ib, ← ic]
    exact e5
  have a1' : (hI (hI (hJ k 116 (180 + A' 1) (lN (c8 (wdI T n j)))) 114 (1608 + A' 1) (nI (A 0))) 114 (1632 + A' 1) (nI 1)).2.1 114 1601 = nI (A' 1) := by
    rw [rI_nk (by omega), rI_nk (by omega)]
    exact a1
  have tk13 : k5.2.1 113 13 = nI (clN (tcI T n (j + 1))) := rc5.2.1.2.2.2.1
  have cl := cln_lt (t := tcI T n (j + 1))
  have n6 : ¬ nI x = nI 6 := d_ne (by omega) (by decide) (by omega)
  unfold vO
  rw [if_neg (by rw [hb]; decide), if_neg (show ¬ x = 6 by omega)]
  by_cases t2 : tcI T n (j + 1) = 2
  · rw [if_pos t2]
    rw [cln_3.mpr t2] at tk13
    obtain ⟨w1, w2⟩ := r_number rc5 (to := 1632 + A' 1) (lo := 1) (hi := 9) (by decide) (by decide) (by omega)
    by_cases h9 : 1 ≤ nuI T n (j + 1) ∧ nuI T n (j + 1) ≤ 9
    · rw [if_pos h9]
      refine ⟨fun a b e => (by cases e), fun j' A1 V1 e => ?_⟩
      cases e
      obtain ⟨k6, r6, f6, rc6⟩ := w1 ⟨t2, h9⟩
      have z3' : gA (vA A' (A 0) 1) (A 0) (A 1) 3 = 0 := by
        rw [ga_n (by decide) (by omega), va_n (by decide) (by omega) (by omega)]
        exact a3
      have d6 := drm_at (A' := upN (gA (vA A' (A 0) 1) (A 0) (A 1)) (32 + A' 1) (nuI T n (j + 1))) d5 (j := 32 + A' 1) (x := nuI T n (j + 1)) (by omega) (by omega) up_e (fun y hy => up_n hy) (fun h => absurd h (by rw [up_n (by omega), z3']; omega))
      rw [ga_2 f4 b24, ib] at d6
      have d7 := drm_13 d6 f6 rc6
      have uc : upC (cA (vA A' (A 0) 1)) 0 = upC (cA (vA A' (A 0) (nuI T n (j + 1)))) 0 := by rw [← up01 b24, ← up01 b24]
      rw [uc] at d7
      exact ⟨k6, by rw [u_X12_aFact_b113_e]; simp (disch := first | assumption | omega | decide | ((repeat first | apply lyI | apply lyJ | apply lywI | apply lywJ | apply csI | apply csJ | apply cswI | apply cswJ); assumption)) only [f_X12_aFact_j237, SM, LI, ↓li_m1, nI_add, pk_mul, nn_sub, nn_m1, nn_div, nn_rem, nn_nz, nn_mod, nJ_l, lN_add, lN_mul, nn_tb1, nI_bt, nn_and, nn_or, nn_xor, nn_shr, nn_1shl, nn_31, il_p, il_n, it_p, it_n, ie_p, ie_n, ie_b, ie_b1, ie_m, ie_mm, it_m, it_m0, il_m0, bI_rZ, Option.bind_some, bd2_some, Nat.add_zero, Nat.zero_add, if_true, if_false, Bool.false_eq_true, eq_self, hI_R, hJ_R, ng_t, ng_e, isn, isf', if_neg n6, a1, nh, a1', e5', tk13, r6]; try (unfold u_X12_aFact_b113_c3; simp (disch := first | assumption | omega | decide | ((repeat first | apply lyI | apply lyJ | apply lywI | apply lywJ | apply csI | apply csJ | apply cswI | apply cswJ); assumption)) only [f_X12_aFact_j237, SM, LI, ↓li_m1, nI_add, pk_mul, nn_sub, nn_m1, nn_div, nn_rem, nn_nz, nn_mod, nJ_l, lN_add, lN_mul, nn_tb1, nI_bt, nn_and, nn_or, nn_xor, nn_shr, nn_1shl, nn_31, il_p, il_n, it_p, it_n, ie_p, ie_n, ie_b, ie_b1, ie_m, ie_mm, it_m, it_m0, il_m0, bI_rZ, Option.bind_some, bd2_some, Nat.add_zero, Nat.zero_add, if_true, if_false, Bool.false_eq_true, eq_self, hI_R, hJ_R, ng_t, ng_e, isn, isf', if_neg n6, a1, nh, a1', e5', tk13, r6]); try (unfold u_X12_aFact_b113_c2; simp (disch := first | assumption | omega | decide | ((repeat first | apply lyI | apply lyJ | apply lywI | apply lywJ | apply csI | apply csJ | apply cswI | apply cswJ); assumption)) only [f_X12_aFact_j237, SM, LI, ↓li_m1, nI_add, pk_mul, nn_sub, nn_m1, nn_div, nn_rem, nn_nz, nn_mod, nJ_l, lN_add, lN_mul, nn_tb1, nI_bt, nn_and, nn_or, nn_xor, nn_shr, nn_1shl, nn_31, il_p, il_n, it_p, it_n, ie_p, ie_n, ie_b, ie_b1, ie_m, ie_mm, it_m, it_m0, il_m0, bI_rZ, Option.bind_some, bd2_some, Nat.add_zero, Nat.zero_add, if_true, if_false, Bool.false_eq_true, eq_self, hI_R, hJ_R, ng_t, ng_e, isn, isf', if_neg n6, a1, nh, a1', e5', tk13, r6]); try (unfold u_X12_aFact_b113_c1; simp (disch := first | assumption | omega | decide | ((repeat first | apply lyI | apply lyJ | apply lywI | apply lywJ | apply csI | apply csJ | apply cswI | apply cswJ); assumption)) only [f_X12_aFact_j237, SM, LI, ↓li_m1, nI_add, pk_mul, nn_sub, nn_m1, nn_div, nn_rem, nn_nz, nn_mod, nJ_l, lN_add, lN_mul, nn_tb1, nI_bt, nn_and, nn_or, nn_xor, nn_shr, nn_1shl, nn_31, il_p, il_n, it_p, it_n, ie_p, ie_n, ie_b, ie_b1, ie_m, ie_mm, it_m, it_m0, il_m0, bI_rZ, Option.bind_some, bd2_some, Nat.add_zero, Nat.zero_add, if_true, if_false, Bool.false_eq_true, eq_self, hI_R, hJ_R, ng_t, ng_e, isn, isf', if_neg n6, a1, nh, a1', e5', tk13, r6]), d7⟩
    · rw [if_neg h9]
      refine ⟨fun a b e => ?_, fun j' A1 V1 e => (by cases e)⟩
      cases e
      obtain ⟨k6, r6, f6, rl⟩ := w2 (fun z => h9 z.2)
      rw [if_pos t2] at rl
      exact ⟨k6, by rw [u_X12_aFact_b113_e]; simp (disch := first | assumption | omega | decide | ((repeat first | apply lyI | apply lyJ | apply lywI | apply lywJ | apply csI | apply csJ | apply cswI | apply cswJ); assumption)) only [f_X12_aFact_j237, SM, LI, ↓li_m1, nI_add, pk_mul, nn_sub, nn_m1, nn_div, nn_rem, nn_nz, nn_mod, nJ_l, lN_add, lN_mul, nn_tb1, nI_bt, nn_and, nn_or, nn_xor, nn_shr, nn_1shl, nn_31, il_p, il_n, it_p, it_n, ie_p, ie_n, ie_b, ie_b1, ie_m, ie_mm, it_m, it_m0, il_m0, bI_rZ, Option.bind_some, bd2_some, Nat.add_zero, Nat.zero_add, if_true, if_false, Bool.false_eq_true, eq_self, hI_R, hJ_R, ng_t, ng_e, isn, isf', if_neg n6, a1, nh, a1', e5', tk13, r6]; try (unfold u_X12_aFact_b113_c3; simp (disch := first | assumption | omega | decide | ((repeat first | apply lyI | apply lyJ | apply lywI | apply lywJ | apply csI | apply csJ | apply cswI | apply cswJ); assumption)) only [f_X12_aFact_j237, SM, LI, ↓li_m1, nI_add, pk_mul, nn_sub, nn_m1, nn_div, nn_rem, nn_nz, nn_mod, nJ_l, lN_add, lN_mul, nn_tb1, nI_bt, nn_and, nn_or, nn_xor, nn_shr, nn_1shl, nn_31, il_p, il_n, it_p, it_n, ie_p, ie_n, ie_b, ie_b1, ie_m, ie_mm, it_m, it_m0, il_m0, bI_rZ, Option.bind_some, bd2_some, Nat.add_zero, Nat.zero_add, if_true, if_false, Bool.false_eq_true, eq_self, hI_R, hJ_R, ng_t, ng_e, isn, isf', if_neg n6, a1, nh, a1', e5', tk13, r6]); try (unfold u_X12_aFact_b113_c2; simp (disch := first | assumption | omega | decide | ((repeat first | apply lyI | apply lyJ | apply lywI | apply lywJ | apply csI | apply csJ | apply cswI | apply cswJ); assumption)) only [f_X12_aFact_j237, SM, LI, ↓li_m1, nI_add, pk_mul, nn_sub, nn_m1, nn_div, nn_rem, nn_nz, nn_mod, nJ_l, lN_add, lN_mul, nn_tb1, nI_bt, nn_and, nn_or, nn_xor, nn_shr, nn_1shl, nn_31, il_p, il_n, it_p, it_n, ie_p, ie_n, ie_b, ie_b1, ie_m, ie_mm, it_m, it_m0, il_m0, bI_rZ, Option.bind_some, bd2_some, Nat.add_zero, Nat.zero_add, if_true, if_false, Bool.false_eq_true, eq_self, hI_R, hJ_R, ng_t, ng_e, isn, isf', if_neg n6, a1, nh, a1', e5', tk13, r6]); try (unfold u_X12_aFact_b113_c1; simp (disch := first | assumption | omega | decide | ((repeat first | apply lyI | apply lyJ | apply lywI | apply lywJ | apply csI | apply csJ | apply cswI | apply cswJ); assumption)) only [f_X12_aFact_j237, SM, LI, ↓li_m1, nI_add, pk_mul, nn_sub, nn_m1, nn_div, nn_rem, nn_nz, nn_mod, nJ_l, lN_add, lN_mul, nn_tb1, nI_bt, nn_and, nn_or, nn_xor, nn_shr, nn_1shl, nn_31, il_p, il_n, it_p, it_n, ie_p, ie_n, ie_b, ie_b1, ie_m, ie_mm, it_m, it_m0, il_m0, bI_rZ, Option.bind_some, bd2_some, Nat.add_zero, Nat.zero_add, if_true, if_false, Bool.false_eq_true, eq_self, hI_R, hJ_R, ng_t, ng_e, isn, isf', if_neg n6, a1, nh, a1', e5', tk13, r6]), frr_13 d5.1 f6, rl⟩
  · rw [if_neg t2]
    have n3 : ¬ nI (clN (tcI T n (j + 1))) = nI 3 := d_ne (by omega) (by decide) (fun e => t2 (cln_3.mp e))
    refine ⟨fun a b e => (by cases e), fun j' A1 V1 e => ?_⟩
    cases e
    exact ⟨k5, by rw [u_X12_aFact_b113_e]; simp (disch := first | assumption | omega | decide | ((repeat first | apply lyI | apply lyJ | apply lywI | apply lywJ | apply csI | apply csJ | apply cswI | apply cswJ); assumption)) only [f_X12_aFact_j237, SM, LI, ↓li_m1, nI_add, pk_mul, nn_sub, nn_m1, nn_div, nn_rem, nn_nz, nn_mod, nJ_l, lN_add, lN_mul, nn_tb1, nI_bt, nn_and, nn_or, nn_xor, nn_shr, nn_1shl, nn_31, il_p, il_n, it_p, it_n, ie_p, ie_n, ie_b, ie_b1, ie_m, ie_mm, it_m, it_m0, il_m0, bI_rZ, Option.bind_some, bd2_some, Nat.add_zero, Nat.zero_add, if_true, if_false, Bool.false_eq_true, eq_self, hI_R, hJ_R, ng_t, ng_e, isn, isf', if_neg n6, a1, nh, a1', e5', tk13, if_neg n3]; try (unfold u_X12_aFact_b113_c3; simp (disch := first | assumption | omega | decide | ((repeat first | apply lyI | apply lyJ | apply lywI | apply lywJ | apply csI | apply csJ | apply cswI | apply cswJ); assumption)) only [f_X12_aFact_j237, SM, LI, ↓li_m1, nI_add, pk_mul, nn_sub, nn_m1, nn_div, nn_rem, nn_nz, nn_mod, nJ_l, lN_add, lN_mul, nn_tb1, nI_bt, nn_and, nn_or, nn_xor, nn_shr, nn_1shl, nn_31, il_p, il_n, it_p, it_n, ie_p, ie_n, ie_b, ie_b1, ie_m, ie_mm, it_m, it_m0, il_m0, bI_rZ, Option.bind_some, bd2_some, Nat.add_zero, Nat.zero_add, if_true, if_false, Bool.false_eq_true, eq_self, hI_R, hJ_R, ng_t, ng_e, isn, isf', if_neg n6, a1, nh, a1', e5', tk13, if_neg n3]); try (unfold u_X12_aFact_b113_c2; simp (disch := first | assumption | omega | decide | ((repeat first | apply lyI | apply lyJ | apply lywI | apply lywJ | apply csI | apply csJ | apply cswI | apply cswJ); assumption)) only [f_X12_aFact_j237, SM, LI, ↓li_m1, nI_add, pk_mul, nn_sub, nn_m1, nn_div, nn_rem, nn_nz, nn_mod, nJ_l, lN_add, lN_mul, nn_tb1, nI_bt, nn_and, nn_or, nn_xor, nn_shr, nn_1shl, nn_31, il_p, il_n, it_p, it_n, ie_p, ie_n, ie_b, ie_b1, ie_m, ie_mm, it_m, it_m0, il_m0, bI_rZ, Option.bind_some, bd2_some, Nat.add_zero, Nat.zero_add, if_true, if_false, Bool.false_eq_true, eq_self, hI_R, hJ_R, ng_t, ng_e, isn, isf', if_neg n6, a1, nh, a1', e5', tk13, if_neg n3]); try (unfold u_X12_aFact_b113_c1; simp (disch := first | assumption | omega | decide | ((repeat first | apply lyI | apply lyJ | apply lywI | apply lywJ | apply csI | apply csJ | apply cswI | apply cswJ); assumption)) only [f_X12_aFact_j237, SM, LI, ↓li_m1, nI_add, pk_mul, nn_sub, nn_m1, nn_div, nn_rem, nn_nz, nn_mod, nJ_l, lN_add, lN_mul, nn_tb1, nI_bt, nn_and, nn_or, nn_xor, nn_shr, nn_1shl, nn_31, il_p, il_n, it_p, it_n, ie_p, ie_n, ie_b, ie_b1, ie_m, ie_mm, it_m, it_m0, il_m0, bI_rZ, Option.bind_some, bd2_some, Nat.add_zero, Nat.zero_add, if_true, if_false, Bool.false_eq_true, eq_self, hI_R, hJ_R, ng_t, ng_e, isn, isf', if_neg n6, a1, nh, a1', e5', tk13, if_neg n3]), d5⟩
