/-! ===== cases: the reference reads a witness ===== -/
def sE (e : aH ⊕ aH ⊕ aH) : Option (Int32 × aH) := match e with
  | .inl h14 => some ((0 : Int32), h14)
  | .inr (.inl h15) => (ck h15 12 113).bind fun _ => bd2 (f_X12_fails h15 113 (5 : Int32)) fun t16 h17 => (rZ t16).bind fun t18 => some (t18, h17)
  | .inr (.inr h19) => some ((1 : Int32), h19)
def OSr (k0 : aH) (T : Nat → Nat) (n up : Nat) (B : Nat → Nat) (r : Nat) (C : Nat → Nat) (V : Nat → List Nat) (Bv : Nat → Nat) (Q : Nat → Nat → Bool) (x : Option (Int32 × aH)) (o : (Nat × Nat) ⊕ (Nat × Nat)) : Prop := match o with
  | .inl (f, q) => (∃ k', x = some (nI 0, k') ∧ FRR k0 k' ∧ RLx k' f q) ∨ ∃ k' j S, x = some (nI 1, k') ∧ DRm k0 k' T n j (upN B r S) C V Bv Q ∧ tcI T n j ≠ up ∧ f = fkN T n j 2 ∧ q = frI T n j
  | .inr (j, S) => ∃ k', x = some (nI 1, k') ∧ DRm k0 k' T n j (upN B r S) C V Bv Q
theorem up_up {A : Nat → Nat} {j x y : Nat} : upN (upN A j x) j y = upN A j y := by
  funext z
  unfold upN
  split <;> rfl
theorem r_sL {k0 : aH} {T : Nat → Nat} {n m : Nat} {C : Nat → Nat} {V : Nat → List Nat} {Bv : Nat → Nat} {Q : Nat → Nat → Bool} {B : Nat → Nat} {r s up b : Nat} (r76 : 76 ≤ r) (r100 : r < 100) (s4 : s < 4) (hb : C s ≤ b) (b12 : b ≤ 12) (B0 : B 0 ≤ 4) (nv : NV C V) (hm : m ≤ 900) (ht : ∀ i, i ≤ m → 2 ≤ tcI T n i → i < m) (up6 : up ≠ 6) : ∀ (gf x j F : Nat) (k : aH) (S : Nat), j ≤ m → m < j + gf → gf < F → S < 2 ^ b → (x = 0 → tcI T n j = 6) → DRm k0 k T n j (upN B r S) C V Bv Q → OSr k0 T n up B r C V Bv Q ((whileL F (fun q : aH => f_X12_several_b19 113 (nI (1600 + r)) (nI (nbN s)) (nI (C s)) q) k).bind sE) (tN T n C V s up gf x j S)
  | 0, x, j, F, k, S, hj, hg, hF, hS, t0, d => absurd hg (by omega)
  | gf + 1, x, j, F, k, S, hj, hg, hF, hS, t0, d => by
    obtain ⟨F', rfl⟩ := ex_s hF
    have rc := d.2.1
    have kl := rc.1
    have rx := rc.2.1
    have isn := r_isN kl rx
    have pb : 2 ^ b ≤ 2 ^ 12 := Nat.pow_le_pow_right (by decide) b12
    by_cases t6 : tcI T n j = 6
    · rw [decide_eq_true t6, bI_t] at isn
      have h1 : ¬ (x ≠ 0 ∧ tcI T n j = up) := fun z => up6 (by rw [← z.2, t6])
      have et : tN T n C V s up (gf + 1) x j S = (match nmO T n j C V s with
        | none => .inl (nmF T n j, frI T n j)
        | some a => if S.testBit a = true then .inl (5, frI T n j) else tN T n C V s up gf (x + 1) (j + 1) (S ||| 2 ^ a)) := if_neg h1
      obtain ⟨u1, u2⟩ := r_old rc d.2.2.1 nv s4 (by decide)
      cases hn : nmO T n j C V s with
      | none =>
        rw [hn] at et
        obtain ⟨k', r2, f2, l⟩ := u2 hn
        have e : f_X12_several_b19 113 (nI (1600 + r)) (nI (nbN s)) (nI (C s)) k = some (.inr (.inl k')) := by simp (disch := first | assumption | omega | decide | ((repeat first | apply lyI | apply lyJ | apply lywI | apply lywJ | apply csI | apply csJ | apply cswI | apply cswJ); assumption)) only [f_X12_several_b19, SM, LI, ↓li_m1, nI_add, pk_mul, nn_sub, nn_m1, nn_div, nn_rem, nn_nz, nn_mod, nJ_l, lN_add, lN_mul, nn_tb1, nI_bt, nn_and, nn_or, nn_xor, nn_shr, nn_1shl, nn_31, il_p, il_n, it_p, it_n, ie_p, ie_n, ie_b, ie_b1, ie_m, ie_mm, it_m, it_m0, il_m0, bI_rZ, Option.bind_some, bd2_some, Nat.add_zero, Nat.zero_add, if_true, if_false, Bool.false_eq_true, eq_self, hI_R, hJ_R, ng_t, ng_e, isn, r2]
        rw [wl_r e, et]
        exact Or.inl ⟨k', rfl, frr_13 d.1 f2, l⟩
      | some a =>
        rw [hn] at et
        have r2 := u1 a hn
        obtain ⟨-, ab⟩ := nm_6 hn
        have f21 : FR k (hI k 113 21 (nI a)) [] [] [] F13 := fr_1 (by decide)
        have d1 := drm_13 d f21 (rc_fr (fr_1 (cI := []) (cJ := []) (f0 := []) (f1 := [21]) (by decide)) (by decide) (by decide) rc)
        have l1 : LAY (hI k 113 21 (nI a)) := kl
        have qt : (hI k 113 21 (nI a)).2.1 114 (1600 + r) = nI S := by
          have := d1.2.2.2.1 r (by omega) (by omega)
          rw [up_e] at this
          exact this
        have q21 : (hI k 113 21 (nI a)).2.1 113 21 = nI a := rI_eq
        cases hb' : S.testBit a with
        | true =>
          obtain ⟨k', r3, f3, l⟩ := r_fail d1.2.1 5
          rw [fk_n (by omega)] at l
          have e : f_X12_several_b19 113 (nI (1600 + r)) (nI (nbN s)) (nI (C s)) k = some (.inr (.inr (.inl (hI k 113 21 (nI a))))) := by simp (disch := first | assumption | omega | decide | ((repeat first | apply lyI | apply lyJ | apply lywI | apply lywJ | apply csI | apply csJ | apply cswI | apply cswJ); assumption)) only [f_X12_several_b19, SM, LI, ↓li_m1, nI_add, pk_mul, nn_sub, nn_m1, nn_div, nn_rem, nn_nz, nn_mod, nJ_l, lN_add, lN_mul, nn_tb1, nI_bt, nn_and, nn_or, nn_xor, nn_shr, nn_1shl, nn_31, il_p, il_n, it_p, it_n, ie_p, ie_n, ie_b, ie_b1, ie_m, ie_mm, it_m, it_m0, il_m0, bI_rZ, Option.bind_some, bd2_some, Nat.add_zero, Nat.zero_add, if_true, if_false, Bool.false_eq_true, eq_self, hI_R, hJ_R, ng_t, ng_e, isn, r2, qt, q21, hb']
          rw [wl_r e, et.trans (if_pos hb')]
          exact Or.inl ⟨k', by show sE (.inr (.inl (hI k 113 21 (nI a)))) = _; simp (disch := first | assumption | omega | decide | ((repeat first | apply lyI | apply lyJ | apply lywI | apply lywJ | apply csI | apply csJ | apply cswI | apply cswJ); assumption)) only [sE, SM, LI, ↓li_m1, nI_add, pk_mul, nn_sub, nn_m1, nn_div, nn_rem, nn_nz, nn_mod, nJ_l, lN_add, lN_mul, nn_tb1, nI_bt, nn_and, nn_or, nn_xor, nn_shr, nn_1shl, nn_31, il_p, il_n, it_p, it_n, ie_p, ie_n, ie_b, ie_b1, ie_m, ie_mm, it_m, it_m0, il_m0, bI_rZ, Option.bind_some, bd2_some, Nat.add_zero, Nat.zero_add, if_true, if_false, Bool.false_eq_true, eq_self, hI_R, hJ_R, ng_t, ng_e, r3, rz0], frr_13 d1.1 f3, l⟩
        | false =>
          have d2 := drm_at (A' := upN B r (S ||| 2 ^ a)) d1 (j := r) (x := S ||| 2 ^ a) r100 (by omega) up_e (fun y hy => by rw [up_n hy, up_n hy]) (fun h => ⟨by rw [up_n (by omega)] at h ⊢; exact h, fun w => ag_cn (fun y hy h3 => by rw [up_n (by omega), up_n (by omega)]) (by rw [up_n (by omega)]; exact B0)⟩)
          obtain ⟨k5, e5, f5, rc5⟩ := r_go d2.2.1
          have d5 := drm_13 d2 f5 rc5
          have l2 : LAY (hI (hI k 113 21 (nI a)) 114 (1600 + r) (nI (S ||| 2 ^ a))) := kl
          have e : f_X12_several_b19 113 (nI (1600 + r)) (nI (nbN s)) (nI (C s)) k = some (.inl k5) := by simp (disch := first | assumption | omega | decide | ((repeat first | apply lyI | apply lyJ | apply lywI | apply lywJ | apply csI | apply csJ | apply cswI | apply cswJ); assumption)) only [f_X12_several_b19, SM, LI, ↓li_m1, nI_add, pk_mul, nn_sub, nn_m1, nn_div, nn_rem, nn_nz, nn_mod, nJ_l, lN_add, lN_mul, nn_tb1, nI_bt, nn_and, nn_or, nn_xor, nn_shr, nn_1shl, nn_31, il_p, il_n, it_p, it_n, ie_p, ie_n, ie_b, ie_b1, ie_m, ie_mm, it_m, it_m0, il_m0, bI_rZ, Option.bind_some, bd2_some, Nat.add_zero, Nat.zero_add, if_true, if_false, Bool.false_eq_true, eq_self, hI_R, hJ_R, ng_t, ng_e, isn, r2, qt, q21, hb', e5]
          rw [wl_l e, et.trans (if_neg (by rw [hb']; decide))]
          have i1 := ht j hj (by omega)
          exact r_sL r76 r100 s4 hb b12 B0 nv hm ht up6 gf (x + 1) (j + 1) F' k5 (S ||| 2 ^ a) (by omega) (by omega) (by omega) (Nat.or_lt_two_pow hS (Nat.pow_lt_pow_right (by decide) (by omega))) (fun z => absurd z (by omega)) d5
    · rw [decide_eq_false t6, bI_f] at isn
      have e : f_X12_several_b19 113 (nI (1600 + r)) (nI (nbN s)) (nI (C s)) k = some (.inr (.inr (.inr k))) := by simp (disch := first | assumption | omega | decide | ((repeat first | apply lyI | apply lyJ | apply lywI | apply lywJ | apply csI | apply csJ | apply cswI | apply cswJ); assumption)) only [f_X12_several_b19, SM, LI, ↓li_m1, nI_add, pk_mul, nn_sub, nn_m1, nn_div, nn_rem, nn_nz, nn_mod, nJ_l, lN_add, lN_mul, nn_tb1, nI_bt, nn_and, nn_or, nn_xor, nn_shr, nn_1shl, nn_31, il_p, il_n, it_p, it_n, ie_p, ie_n, ie_b, ie_b1, ie_m, ie_mm, it_m, it_m0, il_m0, bI_rZ, Option.bind_some, bd2_some, Nat.add_zero, Nat.zero_add, if_true, if_false, Bool.false_eq_true, eq_self, hI_R, hJ_R, ng_t, ng_e, isn]
      rw [wl_r e]
      have x0 : x ≠ 0 := fun z => t6 (t0 z)
      by_cases h1 : tcI T n j = up
      · rw [show tN T n C V s up (gf + 1) x j S = .inr (j, S) from if_pos ⟨x0, h1⟩]
        exact ⟨k, rfl, d⟩
      · have nn : nmO T n j C V s = none := if_neg t6
        have et : tN T n C V s up (gf + 1) x j S = .inl (nmF T n j, frI T n j) := by
          show (if x ≠ 0 ∧ tcI T n j = up then _ else _) = _
          rw [if_neg (fun z => h1 z.2), nn]
        rw [et]
        have nm : nmF T n j = fkN T n j 2 := by
          unfold nmF
          rw [if_neg t6]
        exact Or.inr ⟨k, j, S, rfl, d, h1, nm, rfl⟩
theorem r_sev {k0 k : aH} {T : Nat → Nat} {n m j : Nat} {C : Nat → Nat} {V : Nat → List Nat} {Bv : Nat → Nat} {Q : Nat → Nat → Bool} {B : Nat → Nat} {r s up b : Nat} (r76 : 76 ≤ r) (r100 : r < 100) (s4 : s < 4) (hb : C s ≤ b) (b12 : b ≤ 12) (B0 : B 0 ≤ 4) (Br : B r = 0) (nv : NV C V) (hm : m ≤ 900) (ht : ∀ i, i ≤ m → 2 ≤ tcI T n i → i < m) (up6 : up ≠ 6) (hj : j + 1 ≤ m) (d : DRm k0 k T n j B C V Bv Q) : OSr k0 T n up B r C V Bv Q (f_X12_several k 113 (nI (1600 + r)) (nI (nbN s)) (nI (C s))) (tN T n C V s up 901 0 (j + 1) 0) := by
  have kl := d.2.1.1
  obtain ⟨k1, e1, f1, rc1⟩ := r_go d.2.1
  have d1 := drm_13 d f1 rc1
  have l1 := rc1.1
  have isn := r_isN l1 rc1.2.1
  have eB : upN B r 0 = B := by
    funext y
    unfold upN
    by_cases e : y = r
    · rw [if_pos e, e, Br]
    · rw [if_neg e]
  by_cases t6 : tcI T n (j + 1) = 6
  · rw [decide_eq_true t6, bI_t] at isn
    have o := r_sL (k0 := k0) (Bv := Bv) (Q := Q) r76 r100 s4 hb b12 B0 nv hm ht up6 901 0 (j + 1) wN k1 0 hj (by omega) (by rw [wN_e]; omega) (Nat.two_pow_pos b) (fun _ => t6) (by rw [eB]; exact d1)
    have e : f_X12_several k 113 (nI (1600 + r)) (nI (nbN s)) (nI (C s)) = (f_X12_several_l19 113 (nI (1600 + r)) (nI (nbN s)) (nI (C s)) k1).bind sE := by
      cases hz : f_X12_several_l19 113 (nI (1600 + r)) (nI (nbN s)) (nI (C s)) k1 with
      | none => simp (disch := first | assumption | omega | decide | ((repeat first | apply lyI | apply lyJ | apply lywI | apply lywJ | apply csI | apply csJ | apply cswI | apply cswJ); assumption)) only [f_X12_several, SM, LI, ↓li_m1, nI_add, pk_mul, nn_sub, nn_m1, nn_div, nn_rem, nn_nz, nn_mod, nJ_l, lN_add, lN_mul, nn_tb1, nI_bt, nn_and, nn_or, nn_xor, nn_shr, nn_1shl, nn_31, il_p, il_n, it_p, it_n, ie_p, ie_n, ie_b, ie_b1, ie_m, ie_mm, it_m, it_m0, il_m0, bI_rZ, Option.bind_some, bd2_some, Nat.add_zero, Nat.zero_add, if_true, if_false, Bool.false_eq_true, eq_self, hI_R, hJ_R, ng_t, ng_e, e1, isn, hz, Option.bind_none]
      | some z => rcases z with z | z | z <;> simp (disch := first | assumption | omega | decide | ((repeat first | apply lyI | apply lyJ | apply lywI | apply lywJ | apply csI | apply csJ | apply cswI | apply cswJ); assumption)) only [f_X12_several, sE, SM, LI, ↓li_m1, nI_add, pk_mul, nn_sub, nn_m1, nn_div, nn_rem, nn_nz, nn_mod, nJ_l, lN_add, lN_mul, nn_tb1, nI_bt, nn_and, nn_or, nn_xor, nn_shr, nn_1shl, nn_31, il_p, il_n, it_p, it_n, ie_p, ie_n, ie_b, ie_b1, ie_m, ie_mm, it_m, it_m0, il_m0, bI_rZ, Option.bind_some, bd2_some, Nat.add_zero, Nat.zero_add, if_true, if_false, Bool.false_eq_true, eq_self, hI_R, hJ_R, ng_t, ng_e, e1, isn, hz]
    rw [e]
    exact o
  · rw [decide_eq_false t6, bI_f] at isn
    have nn : nmO T n (j + 1) C V s = none := if_neg t6
    have et : tN T n C V s up 901 0 (j + 1) 0 = .inl (nmF T n (j + 1), frI T n (j + 1)) := by
      show (if (0 : Nat) ≠ 0 ∧ tcI T n (j + 1) = up then _ else _) = _
      rw [if_neg (fun z => z.1 rfl), nn]
    obtain ⟨k', r2, f2, l⟩ := r_fail rc1 2
    have nm : nmF T n (j + 1) = fkN T n (j + 1) 2 := by
      unfold nmF
      rw [if_neg t6]
    rw [et, nm]
    exact Or.inl ⟨k', by simp (disch := first | assumption | omega | decide | ((repeat first | apply lyI | apply lyJ | apply lywI | apply lywJ | apply csI | apply csJ | apply cswI | apply cswJ); assumption)) only [f_X12_several, SM, LI, ↓li_m1, nI_add, pk_mul, nn_sub, nn_m1, nn_div, nn_rem, nn_nz, nn_mod, nJ_l, lN_add, lN_mul, nn_tb1, nI_bt, nn_and, nn_or, nn_xor, nn_shr, nn_1shl, nn_31, il_p, il_n, it_p, it_n, ie_p, ie_n, ie_b, ie_b1, ie_m, ie_mm, it_m, it_m0, il_m0, bI_rZ, Option.bind_some, bd2_some, Nat.add_zero, Nat.zero_add, if_true, if_false, Bool.false_eq_true, eq_self, hI_R, hJ_R, ng_t, ng_e, e1, isn, r2, rz0], frr_13 d1.1 f2, l⟩
def kxI (T : Nat → Nat) (n j : Nat) : Int32 := iwI T n j - (13 : Int32)
theorem kx_t : ∀ t, t < 35 → (kdB t = true → (if 8 ≤ t then nI (rkN (t - 8)) else m1) - (13 : Int32) = nI (t - 21)) ∧ (kdB t = false → ((if 8 ≤ t then nI (rkN (t - 8)) else m1) - (13 : Int32) < nI 0) ∨ (nI 4 ≤ (if 8 ≤ t then nI (rkN (t - 8)) else m1) - (13 : Int32) ∧ ¬ ((if 8 ≤ t then nI (rkN (t - 8)) else m1) - (13 : Int32) < nI 0) ∧ ¬ ((if 8 ≤ t then nI (rkN (t - 8)) else m1) - (13 : Int32) ≤ nI 3))) := by decide +kernel
theorem kx_y {T : Nat → Nat} {n j : Nat} (h : kdB (tcI T n j) = true) : kxI T n j = nI (tcI T n j - 21) := (kx_t _ tc_le).1 h
theorem kx_n {T : Nat → Nat} {n j : Nat} (h : kdB (tcI T n j) = false) : kxI T n j < nI 0 ∨ (nI 4 ≤ kxI T n j ∧ ¬ (kxI T n j < nI 0) ∧ ¬ (kxI T n j ≤ nI 3)) := (kx_t _ tc_le).2 h
theorem wp_up {A : Nat → Nat} {K : Nat} {W : Nat → Nat} {H q u : Nat} (hq : q < 4) : upN (wP A K W H) (76 + 6 * A 4 + q) u = wP A K (upN W q u) H := by
  funext y
  unfold upN wP
  by_cases e : y = 76 + 6 * A 4 + q
  · rw [if_pos e, if_pos (by omega)]
    show u = (if y - (76 + 6 * A 4) = q then u else W (y - (76 + 6 * A 4)))
    rw [if_pos (by omega)]
  · rw [if_neg e]
    by_cases e2 : 76 + 6 * A 4 ≤ y ∧ y < 76 + 6 * A 4 + 4
    · rw [if_pos e2, if_pos e2]
      show W (y - (76 + 6 * A 4)) = (if y - (76 + 6 * A 4) = q then u else W (y - (76 + 6 * A 4)))
      rw [if_neg (by omega)]
    · rw [if_neg e2, if_neg e2]
theorem wp_fin {A : Nat → Nat} {K : Nat} {W : Nat → Nat} {H : Nat} : upN (wP A K W H) 4 (A 4 + 1) = wA A K W H := by
  funext y
  unfold upN wP wA
  rfl
theorem wp_H {A : Nat → Nat} {K : Nat} {W : Nat → Nat} {H : Nat} : upN (wP A K W 0) (76 + 6 * A 4 + 5) H = wP A K W H := by
  funext y
  unfold upN wP
  (repeat' split) <;> first | rfl | omega
theorem wp_K {A : Nat → Nat} {K : Nat} (z : ∀ k, k < 6 → A (76 + 6 * A 4 + k) = 0) : upN A (76 + 6 * A 4 + 4) K = wP A K W00 0 := by
  funext y
  by_cases h : y < 76 + 6 * A 4 ∨ 76 + 6 * A 4 + 6 ≤ y
  · rw [wp_n h, up_n (by omega)]
  · obtain ⟨k, rfl⟩ : ∃ k, y = 76 + 6 * A 4 + k := ⟨y - (76 + 6 * A 4), by omega⟩
    rcases Nat.lt_or_ge k 4 with u | u
    · rw [wp_w u, up_n (by omega), z k (by omega)]
      rfl
    · have : k = 4 ∨ k = 5 := by omega
      rcases this with rfl | rfl
      · rw [wp_k.1, up_e]
      · rw [wp_k.2, up_n (by omega), z 5 (by decide)]
def kRe (v2 : Int32) (e : aH ⊕ aH ⊕ (Int32 × aH)) : Option (Int32 × aH) := match e with
  | .inl h31 => (ck h31 12 113).bind fun _ => bd2 (f_X12_fails h31 113 (5 : Int32)) fun t32 h33 => (rZ t32).bind fun t34 => some (t34, h33)
  | .inr (.inl h35) => some ((0 : Int32), h35)
  | .inr (.inr (t36, h37)) => f_X12_aWitness_j190 h37 113 v2 t36
def OKr (k0 : aH) (T : Nat → Nat) (n : Nat) (A : Nat → Nat) (K : Nat) (C : Nat → Nat) (V : Nat → List Nat) (Bv : Nat → Nat) (Q : Nat → Nat → Bool) (x : Option (Int32 × aH)) (o : (Nat × Nat) ⊕ (Nat × (Nat → Nat) × Nat)) : Prop := match o with
  | .inl (f, q) => ∃ k', x = some (nI 0, k') ∧ FRR k0 k' ∧ RLx k' f q
  | .inr (j, W, s) => ∃ k', x = f_X12_aWitness_j190 k' 113 (nI (1676 + 6 * A 4)) (nI s) ∧ DRm k0 k' T n j (wP A K W 0) C V Bv Q
theorem r_kN {k0 : aH} {T : Nat → Nat} {n m : Nat} {A C : Nat → Nat} {V : Nat → List Nat} {Bv : Nat → Nat} {Q : Nat → Nat → Bool} {K : Nat} (h4 : A 4 < 4) (b0 : A 0 ≤ 4) (hm : m ≤ 900) (ht : ∀ i, i ≤ m → 2 ≤ tcI T n i → i < m) : ∀ (gf x j F : Nat) (k : aH) (W : Nat → Nat) (s : Nat), j ≤ m → m < j + gf → gf < F → KWa W s → (x = 0 → kdB (tcI T n j) = true) → DRm k0 k T n j (wP A K W 0) C V Bv Q → OKr k0 T n A K C V Bv Q ((whileL F (fun q : Int32 × Int32 × aH => f_X12_aWitness_b119 113 (nI (1676 + 6 * A 4)) q.1 q.2.1 q.2.2) (kxI T n j, nI s, k)).bind (kRe (nI (1676 + 6 * A 4)))) (kN T n gf x j W s)
  | 0, x, j, F, k, W, s, hj, hg, hF, kw, t0, d => absurd hg (by omega)
  | gf + 1, x, j, F, k, W, s, hj, hg, hF, kw, t0, d => by
    obtain ⟨F', rfl⟩ := ex_s hF
    have rc := d.2.1
    have kl := rc.1
    have ks : s ≤ 64 := by
      obtain ⟨k1, k2, k3⟩ := kw
      have := k1 0
      have := k1 1
      have := k1 2
      have := k1 3
      omega
    cases hk : kdB (tcI T n j) with
    | false =>
      have x0 : x ≠ 0 := fun z => by rw [t0 z] at hk; cases hk
      have ek : kN T n (gf + 1) x j W s = .inr (j, W, s) := by
        show (if kdB (tcI T n j) = false then _ else _) = _
        rw [if_pos hk, if_pos x0]
      have e : f_X12_aWitness_b119 113 (nI (1676 + 6 * A 4)) (kxI T n j) (nI s) k = some (.inr (.inr (.inr (nI s, k)))) := by
        show (if kxI T n j < nI 0 then some (Sum.inr (Sum.inr (Sum.inr (nI s, k)))) else if nI 4 ≤ kxI T n j then some (Sum.inr (Sum.inr (Sum.inr (nI s, k)))) else _) = _
        rcases kx_n hk with q | ⟨q1, q2, -⟩
        · rw [if_pos q]
        · rw [if_neg q2, if_pos q1]
      rw [wl_r e, ek]
      exact ⟨k, rfl, d⟩
    | true =>
      obtain ⟨t1, t2⟩ := kd_i hk
      have ek : kN T n (gf + 1) x j W s = (if W (tcI T n j - 21) ≠ 0 then .inl (5, frI T n j) else if tcI T n (j + 1) = 2 ∧ 1 ≤ nuI T n (j + 1) ∧ nuI T n (j + 1) ≤ 16 then kN T n gf (x + 1) (j + 2) (upN W (tcI T n j - 21) (nuI T n (j + 1))) (s + nuI T n (j + 1)) else .inl (fkN T n (j + 1) (if tcI T n (j + 1) = 2 then 4 else 2), frI T n (j + 1))) := by
        show (if kdB (tcI T n j) = false then _ else _) = _
        rw [if_neg (by rw [hk]; decide)]
      have kq : tcI T n j - 21 < 4 := by omega
      have ex := kx_y hk
      have ia : 1676 + 6 * A 4 + (tcI T n j - 21) = 1600 + (76 + 6 * A 4 + (tcI T n j - 21)) := by omega
      have qw : k.2.1 114 (1676 + 6 * A 4 + (tcI T n j - 21)) = nI (W (tcI T n j - 21)) := by
        rw [ia, d.2.2.2.1 _ (by omega) (by omega), wp_w kq]
      have w16 := kw.1 (tcI T n j - 21)
      by_cases hw : W (tcI T n j - 21) ≠ 0
      · obtain ⟨k', r3, f3, l⟩ := r_fail rc 5
        rw [fk_n (by omega)] at l
        have e : f_X12_aWitness_b119 113 (nI (1676 + 6 * A 4)) (kxI T n j) (nI s) k = some (.inr (.inl k)) := by
          rw [ex]
          simp (disch := first | assumption | omega | decide | ((repeat first | apply lyI | apply lyJ | apply lywI | apply lywJ | apply csI | apply csJ | apply cswI | apply cswJ); assumption)) only [f_X12_aWitness_b119, SM, LI, ↓li_m1, nI_add, pk_mul, nn_sub, nn_m1, nn_div, nn_rem, nn_nz, nn_mod, nJ_l, lN_add, lN_mul, nn_tb1, nI_bt, nn_and, nn_or, nn_xor, nn_shr, nn_1shl, nn_31, il_p, il_n, it_p, it_n, ie_p, ie_n, ie_b, ie_b1, ie_m, ie_mm, it_m, it_m0, il_m0, bI_rZ, Option.bind_some, bd2_some, Nat.add_zero, Nat.zero_add, if_true, if_false, Bool.false_eq_true, eq_self, hI_R, hJ_R, ng_t, ng_e, qw]
        rw [wl_r e, ek, if_pos hw]
        exact ⟨k', by show kRe (nI (1676 + 6 * A 4)) (.inl k) = _; simp (disch := first | assumption | omega | decide | ((repeat first | apply lyI | apply lyJ | apply lywI | apply lywJ | apply csI | apply csJ | apply cswI | apply cswJ); assumption)) only [kRe, SM, LI, ↓li_m1, nI_add, pk_mul, nn_sub, nn_m1, nn_div, nn_rem, nn_nz, nn_mod, nJ_l, lN_add, lN_mul, nn_tb1, nI_bt, nn_and, nn_or, nn_xor, nn_shr, nn_1shl, nn_31, il_p, il_n, it_p, it_n, ie_p, ie_n, ie_b, ie_b1, ie_m, ie_mm, it_m, it_m0, il_m0, bI_rZ, Option.bind_some, bd2_some, Nat.add_zero, Nat.zero_add, if_true, if_false, Bool.false_eq_true, eq_self, hI_R, hJ_R, ng_t, ng_e, r3, rz0], frr_13 d.1 f3, l⟩
      · have w0 : W (tcI T n j - 21) = 0 := by omega
        rw [w0] at qw
        obtain ⟨k1, e1, f1, rc1⟩ := r_go rc
        have d1 := drm_13 d f1 rc1
        have l1 := rc1.1
        obtain ⟨x1, x2⟩ := r_number rc1 (to := 1676 + 6 * A 4 + (tcI T n j - 21)) (lo := 1) (hi := 16) (by decide) (by decide) (by omega)
        rw [ek, if_neg hw]
        by_cases hn : tcI T n (j + 1) = 2 ∧ 1 ≤ nuI T n (j + 1) ∧ nuI T n (j + 1) ≤ 16
        · rw [if_pos hn]
          obtain ⟨k2, e2, f2, rc2⟩ := x1 hn
          have l2 := rc2.1
          have d2 := drm_at (A' := upN (wP A K W 0) (76 + 6 * A 4 + (tcI T n j - 21)) (nuI T n (j + 1))) d1 (j := 76 + 6 * A 4 + (tcI T n j - 21)) (x := nuI T n (j + 1)) (by omega) (by omega) up_e (fun y hy => up_n hy) (fun h => ⟨by rw [up_n (by omega)] at h; exact h, fun w => ag_cn (fun y hy h3 => by rw [up_n (by omega)]) (by rw [wp_n (by omega)]; exact b0)⟩)
          rw [← ia] at d2
          have d3 := drm_13 d2 f2 rc2
          rw [wp_up kq] at d3
          have iw2 := r_inW l2 rc2.2.1
          have qn : k2.2.1 114 (1676 + 6 * A 4 + (tcI T n j - 21)) = nI (nuI T n (j + 1)) := by
            rw [ia, d3.2.2.2.1 _ (by omega) (by omega), wp_w kq, up_e]
          have e : f_X12_aWitness_b119 113 (nI (1676 + 6 * A 4)) (kxI T n j) (nI s) k = some (.inl (kxI T n (j + 2), nI (s + nuI T n (j + 1)), k2)) := by
            rw [ex]
            have iw2' : f_X12_inWords k2 113 1 = some (iwI T n (j + 2)) := iw2
            simp (disch := first | assumption | omega | decide | ((repeat first | apply lyI | apply lyJ | apply lywI | apply lywJ | apply csI | apply csJ | apply cswI | apply cswJ); assumption)) only [f_X12_aWitness_b119, SM, LI, ↓li_m1, nI_add, pk_mul, nn_sub, nn_m1, nn_div, nn_rem, nn_nz, nn_mod, nJ_l, lN_add, lN_mul, nn_tb1, nI_bt, nn_and, nn_or, nn_xor, nn_shr, nn_1shl, nn_31, il_p, il_n, it_p, it_n, ie_p, ie_n, ie_b, ie_b1, ie_m, ie_mm, it_m, it_m0, il_m0, bI_rZ, Option.bind_some, bd2_some, Nat.add_zero, Nat.zero_add, if_true, if_false, Bool.false_eq_true, eq_self, hI_R, hJ_R, ng_t, ng_e, qw, e1, e2, qn, iw2']
            rfl
          have i1 := ht j hj (by omega)
          have i2 := ht (j + 1) (by omega) (by have := hn.1; omega)
          rw [wl_l e]
          exact r_kN h4 b0 hm ht gf (x + 1) (j + 2) F' k2 _ _ (by omega) (by omega) (by omega) (kw_up kw kq w0 hn.2.2) (fun z => absurd z (by omega)) d3
        · rw [if_neg hn]
          obtain ⟨k2, e2, f2, l⟩ := x2 hn
          have e : f_X12_aWitness_b119 113 (nI (1676 + 6 * A 4)) (kxI T n j) (nI s) k = some (.inr (.inr (.inl k2))) := by
            rw [ex]
            simp (disch := first | assumption | omega | decide | ((repeat first | apply lyI | apply lyJ | apply lywI | apply lywJ | apply csI | apply csJ | apply cswI | apply cswJ); assumption)) only [f_X12_aWitness_b119, SM, LI, ↓li_m1, nI_add, pk_mul, nn_sub, nn_m1, nn_div, nn_rem, nn_nz, nn_mod, nJ_l, lN_add, lN_mul, nn_tb1, nI_bt, nn_and, nn_or, nn_xor, nn_shr, nn_1shl, nn_31, il_p, il_n, it_p, it_n, ie_p, ie_n, ie_b, ie_b1, ie_m, ie_mm, it_m, it_m0, il_m0, bI_rZ, Option.bind_some, bd2_some, Nat.add_zero, Nat.zero_add, if_true, if_false, Bool.false_eq_true, eq_self, hI_R, hJ_R, ng_t, ng_e, qw, e1, e2]
          rw [wl_r e]
          exact ⟨k2, rfl, frr_13 d1.1 f2, l⟩
