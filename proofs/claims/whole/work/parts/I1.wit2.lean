/-! ===== cases: the class reads a witness ===== -/
/-- the worlds by A, the rest by A' -/
def DCk (h0 h : aH) (c : Nat) (T : Nat → Nat) (n m i : Nat) (A A' C : Nat → Nat) (V : Nat → List Nat) (Bv : Nat → Nat) (Q : Nat → Nat → Bool) : Prop := FR h0 h (LCc c) (LJc c) [] [] ∧ LC h T n m i ∧ CS h c ∧ h.2.2.2 42 6 = some c ∧ NCl h c C V ∧ DCa h c A' ∧ (∀ v, v < 24 → h.2.1 48 v = nI (Bv v)) ∧ ((A 3 = 0 ∧ h.2.1 42 7 = nI 0) ∨ (0 < A 3 ∧ h.2.1 42 7 = nI 1 ∧ DWo h c A Bv Q))
/-- only cells of names, of witnesses and the lexer moved -/
theorem dck_fr {h0 h h' : aH} {c : Nat} {T : Nat → Nat} {n m i i' : Nat} {A A' A2 C : Nat → Nat} {V : Nat → List Nat} {Bv : Nat → Nat} {Q : Nat → Nat → Bool} (d : DCk h0 h c T n m i A A' C V Bv Q) (f : FR h h' [4, c, c + 12, c + 13, c + 14] [4] [] []) (lc : LC h' T n m i') (e15 : h'.2.1 c 15 = h.2.1 c 15) (da : DCa h' c A2) : DCk h0 h' c T n m i' A A2 C V Bv Q := by
  obtain ⟨d1, d2, d3, d4, d5, d6, d7, d8⟩ := d
  have c0 := d3.1
  refine ⟨d1.tr (f.mono (by intro x hx; unfold LCc; simp at hx ⊢; omega) (by intro x hx; unfold LJc; simp at hx ⊢; omega) (by simp) (by simp)), lc, cs_fr f d3, by rw [f.2.1]; exact d4, nc_fr f d3 (by simp <;> omega) (by simp <;> omega) (by simp <;> omega) (by simp <;> omega) d5, da, ?_, ?_⟩
  · rw [f.I 48 (by simp <;> omega) (by decide) (by decide)]
    exact d7
  · rw [f.I 42 (by simp <;> omega) (by decide) (by decide)]
    rcases d8 with d8 | ⟨y1, y2, w1, w2, w3, w4, w5⟩
    · exact Or.inl d8
    · refine Or.inr ⟨y1, y2, e15.trans w1, ?_, ?_, ?_, ?_⟩
      · rw [f.I (c + 6) (by simp <;> omega) (by omega) (by omega)]
        exact w2
      · rw [f.I (c + 9) (by simp <;> omega) (by omega) (by omega), f.I (c + 10) (by simp <;> omega) (by omega) (by omega)]
        exact w3
      · rw [f.J 50 (by simp)]
        exact w4
      · rw [f.J 49 (by simp)]
        exact w5
theorem dck_4 {h0 h h' : aH} {c : Nat} {T : Nat → Nat} {n m i i' : Nat} {A A' C : Nat → Nat} {V : Nat → List Nat} {Bv : Nat → Nat} {Q : Nat → Nat → Bool} (d : DCk h0 h c T n m i A A' C V Bv Q) (f : FR h h' [4] [4] [] []) (lc : LC h' T n m i') : DCk h0 h' c T n m i' A A' C V Bv Q := by
  have c0 := d.2.2.1.1
  have ec : ∀ j, j < 16 → h'.2.1 (c + j) = h.2.1 (c + j) := fun j hj => f.I _ (by simp <;> omega) (by omega) (by omega)
  have e0 := ec 0 (by decide)
  rw [Nat.add_zero] at e0
  exact dck_fr d (f.mono (by simp) (by simp) (by simp) (by simp)) lc (by rw [e0]) (dca_k (fun j hj => ec j (by simp at hj; omega)) d.2.2.2.2.2.1)
theorem dck_fl {h0 h h' : aH} {c : Nat} {T : Nat → Nat} {n m i : Nat} {A A' C : Nat → Nat} {V : Nat → List Nat} {Bv : Nat → Nat} {Q : Nat → Nat → Bool} (d : DCk h0 h c T n m i A A' C V Bv Q) {f q : Nat} (f0 : f ≠ 0) (f9 : f < 100) (fr : FR h h' [4] [4] [] []) (fl : FL h' f q) {x : Option (Int32 × aH)} (e : x = some (nI 0, h')) : OCc h0 c T n m x (.inl (f, q)) := ⟨f0, f9, h', e, d.1.tr (fr.mono lcc_4 ljc_4 (by simp) (by simp)), fl⟩
/-- what comes of names up to a token -/
def OTc (h : aH) (T : Nat → Nat) (n m : Nat) (x : Option (Int32 × aH)) (o : (Nat × Nat) ⊕ (Nat × Nat)) : Prop := match o with
  | .inl (f, q) => f ≠ 0 ∧ f < 100 ∧ ∃ h', x = some (nI 0, h') ∧ FR h h' [4] [4] [] [] ∧ FL h' f q
  | .inr (j, S) => ∃ h', x = some (nI S, h') ∧ FR h h' [4] [4] [] [] ∧ LC h' T n m j
def tnE (e : aH ⊕ aH ⊕ (Int32 × aH)) : Option (Int32 × aH) := match e with
  | .inl h12 => some ((0 : Int32), h12)
  | .inr (.inl h13) => (gR h13 2 42 0).bind fun t14 => (ck h13 4 t14).bind fun _ => bd2 (f_X4_refuseHere h13 t14 (5 : Int32)) fun t15 h16 => some ((0 : Int32), h16)
  | .inr (.inr (t17, h18)) => some (t17, h18)
theorem x_tN {h : aH} {c : Nat} {T : Nat → Nat} {n m : Nat} {C : Nat → Nat} {V : Nat → List Nat} {s up b : Nat} (s4 : s < 4) (hb : C s ≤ b) (b12 : b ≤ 12) (up9 : up < 100) (nv : NV C V) : ∀ (gf x j F : Nat) (g : aH) (S : Nat), x + gf = 901 → gf < F → S < 2 ^ b → FR h g [4] [4] [] [] → LC g T n m j → m < j + gf → CS g c → g.2.2.2 42 6 = some c → NCl g c C V → OTc h T n m ((whileL F (fun q : Int32 × Int32 × aH => f_X2_takeNames_b5 42 (nI s) (nI up) q.1 q.2.1 q.2.2) (nI S, nI x, g)).bind tnE) (tN T n C V s up gf x j S)
  | 0, x, j, F, g, S, hx, hF, hS, f, lc, hm, hs, h6, nc => absurd hm (by have := lc.2.2.2; omega)
  | gf + 1, x, j, F, g, S, hx, hF, hS, f, lc, hm, hs, h6, nc => by
    obtain ⟨F', rfl⟩ := ex_s hF
    have hl := lc.1
    have c0 := hs.1
    have e10 : g.2.1 4 10 = nI (tcI T n j) := lc.2.2.1.2.1
    have tl := tc_le (T := T) (n := n) (i := j)
    have pb : 2 ^ b ≤ 2 ^ 12 := Nat.pow_le_pow_right (by decide) b12
    by_cases h1 : x ≠ 0 ∧ tcI T n j = up
    · have e : f_X2_takeNames_b5 42 (nI s) (nI up) (nI S) (nI x) g = some (.inr (.inr (.inr (nI S, g)))) := by
        have nx : ¬ nI x = nI 0 := d_ne (by omega) (by decide) h1.1
        rw [h1.2] at e10
        simp (disch := first | assumption | omega | decide | ((repeat first | apply lyI | apply lyJ | apply lywI | apply lywJ | apply csI | apply csJ | apply cswI | apply cswJ); assumption)) only [f_X2_takeNames_b5, SR, SX, LI, ↓li_m1, nI_add, pk_mul, nn_sub, nn_m1, nn_div, nn_rem, nn_nz, nn_mod, nJ_l, lN_add, lN_mul, nn_tb1, nI_bt, nn_and, nn_or, nn_xor, nn_shr, nn_1shl, nn_31, il_p, il_n, it_p, it_n, ie_p, ie_n, ie_b, ie_b1, ie_m, ie_mm, it_m, it_m0, il_m0, bI_rZ, Option.bind_some, bd2_some, Nat.add_zero, Nat.zero_add, if_true, if_false, Bool.false_eq_true, eq_self, hI_R, hJ_R, ng_t, ng_e, if_neg nx, e10]
      rw [wl_r e, show tN T n C V s up (gf + 1) x j S = .inr (j, S) from if_pos h1]
      exact ⟨g, rfl, f, lc⟩
    · have et : tN T n C V s up (gf + 1) x j S = (match nmO T n j C V s with
        | none => .inl (nmF T n j, frI T n j)
        | some a => if S.testBit a = true then .inl (5, frI T n j) else tN T n C V s up gf (x + 1) (j + 1) (S ||| 2 ^ a)) := if_neg h1
      have eb : f_X2_takeNames_b5 42 (nI s) (nI up) (nI S) (nI x) g = f_X2_takeNames_j29 g 42 (nI s) (nI up) (nI S) (nI x) := by
        by_cases h0 : x = 0
        · subst h0
          simp (disch := first | assumption | omega | decide | ((repeat first | apply lyI | apply lyJ | apply lywI | apply lywJ | apply csI | apply csJ | apply cswI | apply cswJ); assumption)) only [f_X2_takeNames_b5, LI, ↓li_m1, nI_add, pk_mul, nn_sub, nn_m1, nn_div, nn_rem, nn_nz, nn_mod, nJ_l, lN_add, lN_mul, nn_tb1, nI_bt, nn_and, nn_or, nn_xor, nn_shr, nn_1shl, nn_31, il_p, il_n, it_p, it_n, ie_p, ie_n, ie_b, ie_b1, ie_m, ie_mm, it_m, it_m0, il_m0, bI_rZ, Option.bind_some, bd2_some, Nat.add_zero, Nat.zero_add, if_true, if_false, Bool.false_eq_true, eq_self, hI_R, hJ_R, ng_t, ng_e]
        · have nx : ¬ nI x = nI 0 := d_ne (by omega) (by decide) h0
          have n3 : ¬ nI (tcI T n j) = nI up := d_ne (by omega) (by omega) (fun e => h1 ⟨h0, e⟩)
          simp (disch := first | assumption | omega | decide | ((repeat first | apply lyI | apply lyJ | apply lywI | apply lywJ | apply csI | apply csJ | apply cswI | apply cswJ); assumption)) only [f_X2_takeNames_b5, SR, SX, LI, ↓li_m1, nI_add, pk_mul, nn_sub, nn_m1, nn_div, nn_rem, nn_nz, nn_mod, nJ_l, lN_add, lN_mul, nn_tb1, nI_bt, nn_and, nn_or, nn_xor, nn_shr, nn_1shl, nn_31, il_p, il_n, it_p, it_n, ie_p, ie_n, ie_b, ie_b1, ie_m, ie_mm, it_m, it_m0, il_m0, bI_rZ, Option.bind_some, bd2_some, Nat.add_zero, Nat.zero_add, if_true, if_false, Bool.false_eq_true, eq_self, hI_R, hJ_R, ng_t, ng_e, if_neg nx, e10, if_neg n3]
      obtain ⟨u1, u2⟩ := x_seek lc hs nc nv s4
      cases hn : nmO T n j C V s with
      | none =>
        rw [hn] at et
        obtain ⟨h', r, f2, l⟩ := u2 hn
        obtain ⟨n1, n2⟩ := nf_b (T := T) (n := n) (i := j)
        have e : f_X2_takeNames_b5 42 (nI s) (nI up) (nI S) (nI x) g = some (.inr (.inl h')) := by
          rw [eb]
          simp (disch := first | assumption | omega | decide | ((repeat first | apply lyI | apply lyJ | apply lywI | apply lywJ | apply csI | apply csJ | apply cswI | apply cswJ); assumption)) only [f_X2_takeNames_j29, SR, SX, SC, LI, ↓li_m1, nI_add, pk_mul, nn_sub, nn_m1, nn_div, nn_rem, nn_nz, nn_mod, nJ_l, lN_add, lN_mul, nn_tb1, nI_bt, nn_and, nn_or, nn_xor, nn_shr, nn_1shl, nn_31, il_p, il_n, it_p, it_n, ie_p, ie_n, ie_b, ie_b1, ie_m, ie_mm, it_m, it_m0, il_m0, bI_rZ, Option.bind_some, bd2_some, Nat.add_zero, Nat.zero_add, if_true, if_false, Bool.false_eq_true, eq_self, hI_R, hJ_R, ng_t, ng_e, h6, r]
        rw [wl_r e, et]
        exact ⟨n1, n2, h', rfl, f.tr f2, l⟩
      | some a =>
        rw [hn] at et
        have r := u1 a hn
        obtain ⟨t6, ab⟩ := nm_6 hn
        cases ht : S.testBit a with
        | true =>
          obtain ⟨h', r2, f2, l⟩ := x_ref lc 5
          rw [fk_n (by omega)] at l
          have e : f_X2_takeNames_b5 42 (nI s) (nI up) (nI S) (nI x) g = some (.inr (.inr (.inl g))) := by
            rw [eb]
            simp (disch := first | assumption | omega | decide | ((repeat first | apply lyI | apply lyJ | apply lywI | apply lywJ | apply csI | apply csJ | apply cswI | apply cswJ); assumption)) only [f_X2_takeNames_j29, SR, SX, SC, LI, ↓li_m1, nI_add, pk_mul, nn_sub, nn_m1, nn_div, nn_rem, nn_nz, nn_mod, nJ_l, lN_add, lN_mul, nn_tb1, nI_bt, nn_and, nn_or, nn_xor, nn_shr, nn_1shl, nn_31, il_p, il_n, it_p, it_n, ie_p, ie_n, ie_b, ie_b1, ie_m, ie_mm, it_m, it_m0, il_m0, bI_rZ, Option.bind_some, bd2_some, Nat.add_zero, Nat.zero_add, if_true, if_false, Bool.false_eq_true, eq_self, hI_R, hJ_R, ng_t, ng_e, h6, r, ht]
          rw [wl_r e, et.trans (if_pos ht)]
          exact ⟨by decide, by decide, h', by show tnE (.inr (.inl g)) = _; simp (disch := first | assumption | omega | decide | ((repeat first | apply lyI | apply lyJ | apply lywI | apply lywJ | apply csI | apply csJ | apply cswI | apply cswJ); assumption)) only [tnE, SR, SX, LI, ↓li_m1, nI_add, pk_mul, nn_sub, nn_m1, nn_div, nn_rem, nn_nz, nn_mod, nJ_l, lN_add, lN_mul, nn_tb1, nI_bt, nn_and, nn_or, nn_xor, nn_shr, nn_1shl, nn_31, il_p, il_n, it_p, it_n, ie_p, ie_n, ie_b, ie_b1, ie_m, ie_mm, it_m, it_m0, il_m0, bI_rZ, Option.bind_some, bd2_some, Nat.add_zero, Nat.zero_add, if_true, if_false, Bool.false_eq_true, eq_self, hI_R, hJ_R, ng_t, ng_e, r2], f.tr f2, l⟩
        | false =>
          obtain ⟨h', ad, f2, lc2⟩ := x_adv lc (lc_lt lc (by omega))
          have e : f_X2_takeNames_b5 42 (nI s) (nI up) (nI S) (nI x) g = some (.inl (nI (S ||| 2 ^ a), nI (x + 1), h')) := by
            rw [eb]
            simp (disch := first | assumption | omega | decide | ((repeat first | apply lyI | apply lyJ | apply lywI | apply lywJ | apply csI | apply csJ | apply cswI | apply cswJ); assumption)) only [f_X2_takeNames_j29, SR, SX, SC, LI, ↓li_m1, nI_add, pk_mul, nn_sub, nn_m1, nn_div, nn_rem, nn_nz, nn_mod, nJ_l, lN_add, lN_mul, nn_tb1, nI_bt, nn_and, nn_or, nn_xor, nn_shr, nn_1shl, nn_31, il_p, il_n, it_p, it_n, ie_p, ie_n, ie_b, ie_b1, ie_m, ie_mm, it_m, it_m0, il_m0, bI_rZ, Option.bind_some, bd2_some, Nat.add_zero, Nat.zero_add, if_true, if_false, Bool.false_eq_true, eq_self, hI_R, hJ_R, ng_t, ng_e, h6, r, ht, ad]
          rw [wl_l e, et.trans (if_neg (by rw [ht]; decide))]
          exact x_tN s4 hb b12 up9 nv gf (x + 1) (j + 1) F' h' (S ||| 2 ^ a) (by omega) (by omega) (Nat.or_lt_two_pow hS (Nat.pow_lt_pow_right (by decide) (by omega))) (f.tr f2) lc2 (by omega) (cs_fr f2 hs) (by rw [f2.2.1]; exact h6) (nc_fr f2 hs (by simp <;> omega) (by simp <;> omega) (by simp <;> omega) (by simp <;> omega) nc)
theorem x_names {h : aH} {c : Nat} {T : Nat → Nat} {n m j : Nat} {C : Nat → Nat} {V : Nat → List Nat} {s up b : Nat} (s4 : s < 4) (hb : C s ≤ b) (b12 : b ≤ 12) (up9 : up < 100) (nv : NV C V) (lc : LC h T n m j) (hs : CS h c) (h6 : h.2.2.2 42 6 = some c) (nc : NCl h c C V) : OTc h T n m (f_X2_takeNames h 42 (nI s) (nI up)) (tN T n C V s up 901 0 j 0) := by
  have o := x_tN (h := h) s4 hb b12 up9 nv 901 0 j wN h 0 rfl (by rw [wN_e]; omega) (Nat.two_pow_pos b) FR.rf lc (by have := (lx_t lc).1; omega) hs h6 nc
  have e : f_X2_takeNames h 42 (nI s) (nI up) = (f_X2_takeNames_l5 42 (nI s) (nI up) (nI 0) (nI 0) h).bind tnE := by
    show (f_X2_takeNames_l5 42 (nI s) (nI up) (0 : Int32) (0 : Int32) h).bind _ = _
    first | rfl | congr 1
  rw [e]
  exact o
/-- kinds -/
def kbN (W : Nat → Nat) : Nat := orN (fun k => if W k = 0 then 0 else 2 ^ k) 4
theorem kb_lt {W : Nat → Nat} : kbN W < 16 := orN_lt (k := 4) (fun i hi => by
  split
  · decide
  · exact Nat.pow_lt_pow_right (by decide) hi)
theorem kb_bit {W : Nat → Nat} {k : Nat} (hk : k < 4) : (kbN W).testBit k = !decide (W k = 0) := by
  unfold kbN
  rw [orN_bit]
  by_cases h : W k = 0
  · rw [decide_eq_true h, anyB_f.mpr]
    · rfl
    · intro i hi
      split
      · exact Nat.zero_testBit k
      · rename_i h1
        rw [Nat.testBit_two_pow]
        by_cases e : i = k
        · rw [e] at h1
          exact absurd h h1
        · simp [e]
  · rw [decide_eq_false h, anyB_iff.mpr]
    · rfl
    · exact ⟨k, hk, by rw [if_neg h, Nat.testBit_two_pow]; simp⟩
theorem kb_up {W : Nat → Nat} {q u : Nat} (hq : q < 4) (w0 : W q = 0) (u1 : 1 ≤ u) : kbN (upN W q u) = kbN W ||| 2 ^ q := by
  apply Nat.eq_of_testBit_eq
  intro i
  rcases Nat.lt_or_ge i 4 with hi | hi
  · rw [kb_bit hi, Nat.testBit_or, kb_bit hi, Nat.testBit_two_pow]
    by_cases e : i = q
    · subst e
      rw [up_e, decide_eq_false (by omega), w0]
      simp
    · rw [up_n e]
      have : decide (q = i) = false := decide_eq_false (fun z => e z.symm)
      rw [this, Bool.or_false]
  · have l1 := kb_lt (W := upN W q u)
    have l2 : kbN W ||| 2 ^ q < 2 ^ 4 := Nat.or_lt_two_pow kb_lt (Nat.pow_lt_pow_right (by decide) hq)
    have p : 2 ^ 4 ≤ 2 ^ i := Nat.pow_le_pow_right (by decide) hi
    rw [Nat.testBit_lt_two_pow (by omega), Nat.testBit_lt_two_pow (by omega)]
def wP (A : Nat → Nat) (K : Nat) (W : Nat → Nat) (H : Nat) : Nat → Nat := fun y => if 76 + 6 * A 4 ≤ y ∧ y < 76 + 6 * A 4 + 4 then W (y - (76 + 6 * A 4)) else if y = 76 + 6 * A 4 + 4 then K else if y = 76 + 6 * A 4 + 5 then H else A y
theorem wp_w {A : Nat → Nat} {K : Nat} {W : Nat → Nat} {H k : Nat} (hk : k < 4) : wP A K W H (76 + 6 * A 4 + k) = W k := by
  unfold wP
  rw [if_pos (by omega), Nat.add_sub_cancel_left]
theorem wp_k {A : Nat → Nat} {K : Nat} {W : Nat → Nat} {H : Nat} : wP A K W H (76 + 6 * A 4 + 4) = K ∧ wP A K W H (76 + 6 * A 4 + 5) = H := by
  unfold wP
  constructor
  · rw [if_neg (by omega), if_pos rfl]
  · rw [if_neg (by omega), if_neg (by omega), if_pos rfl]
theorem wp_n {A : Nat → Nat} {K : Nat} {W : Nat → Nat} {H y : Nat} (h7 : y < 76 + 6 * A 4 ∨ 76 + 6 * A 4 + 6 ≤ y) : wP A K W H y = A y := by
  unfold wP
  rw [if_neg (by omega), if_neg (by omega), if_neg (by omega)]
theorem wp_0 {A : Nat → Nat} (z : ∀ k, k < 6 → A (76 + 6 * A 4 + k) = 0) : wP A 0 W00 0 = A := by
  funext y
  by_cases h : y < 76 + 6 * A 4 ∨ 76 + 6 * A 4 + 6 ≤ y
  · exact wp_n h
  · obtain ⟨k, rfl⟩ : ∃ k, y = 76 + 6 * A 4 + k := ⟨y - (76 + 6 * A 4), by omega⟩
    rw [z k (by omega)]
    rcases Nat.lt_or_ge k 4 with u | u
    · exact wp_w u
    · have : k = 4 ∨ k = 5 := by omega
      rcases this with rfl | rfl
      · exact wp_k.1
      · exact wp_k.2
/-- the class's rows of the witness under way -/
theorem dca_w {h h' : aH} {c : Nat} {A : Nat → Nat} {K K' : Nat} {W W' : Nat → Nat} {H H' : Nat} (h4 : A 4 < 4) (ec : ∀ k, h'.2.1 c k = h.2.1 c k) (e : ∀ j, j ∈ [5, 7, 8, 11] → h'.2.1 (c + j) = h.2.1 (c + j)) (e12 : ∀ x, x < 4 * A 4 ∨ 4 * A 4 + 4 ≤ x → h'.2.1 (c + 12) x = h.2.1 (c + 12) x) (e12' : ∀ k, k < 4 → h'.2.1 (c + 12) (A 4 * 4 + k) = nI (W' k)) (e13 : ∀ x, x ≠ A 4 → h'.2.1 (c + 13) x = h.2.1 (c + 13) x) (e13' : h'.2.1 (c + 13) (A 4) = nI K') (e14 : ∀ x, x ≠ A 4 → h'.2.1 (c + 14) x = h.2.1 (c + 14) x) (e14' : h'.2.1 (c + 14) (A 4) = nI H') (d : DCa h c (wP A K W H)) (b0 : A 0 ≤ 4) (b1 : A 1 ≤ 24) (b3 : A 3 ≤ 12) : DCa h' c (wP A K' W' H') := by
  obtain ⟨⟨g12, g13, g14, g16, g17, g18⟩, gf, gv, gq, gw⟩ := d
  have n : ∀ y K W H, y < 76 → wP A K W H y = A y := fun y K W H hy => wp_n (by omega)
  have my : ∀ K W H K' W' H', pk4 (myN (wP A K W H)) = pk4 (myN (wP A K' W' H')) := fun K W H K' W' H' => by
    have e : ∀ u, u < 4 → myN (wP A K W H) u = myN (wP A K' W' H') u := fun u hu => by
      unfold myN mayN
      rw [n 4 _ _ _ (by decide), n 4 _ _ _ (by decide)]
      by_cases h4 : u < A 4
      · rw [if_pos h4, if_pos h4]
        exact orN_congr (fun k hk => by rw [wp_n (by omega), wp_n (by omega)])
      · rw [if_neg h4, if_neg h4]
    unfold pk4
    rw [e 0 (by decide), e 1 (by decide), e 2 (by decide), e 3 (by decide)]
  rw [n 0 _ _ _ (by decide)] at g12 gf
  rw [n 1 _ _ _ (by decide)] at g13 gv
  rw [n 2 _ _ _ (by decide)] at g14
  rw [n 3 _ _ _ (by decide)] at g16 gq
  rw [n 4 _ _ _ (by decide)] at g17
  refine ⟨⟨?_, ?_, ?_, ?_, ?_, ?_⟩, fun f hf => ?_, fun v hv => ?_, fun q hq => ?_, fun v hv => ?_⟩
  · rw [ec, n 0 _ _ _ (by decide)]; exact g12
  · rw [ec, n 1 _ _ _ (by decide)]; exact g13
  · rw [ec, n 2 _ _ _ (by decide)]; exact g14
  · rw [ec, n 3 _ _ _ (by decide)]; exact g16
  · rw [ec, n 4 _ _ _ (by decide)]; exact g17
  · rw [ec, my K' W' H' K W H]; exact g18
  · rw [n 0 _ _ _ (by decide)] at hf
    have q := gf f hf
    rw [n _ _ _ _ (by omega), n _ _ _ _ (by omega)] at q
    rw [e 5 (by decide), n _ _ _ _ (by omega), n _ _ _ _ (by omega)]
    exact q
  · rw [n 1 _ _ _ (by decide)] at hv
    have q := gv v hv
    rw [n _ _ _ _ (by omega), n _ _ _ _ (by omega)] at q
    rw [e 7 (by decide), e 8 (by decide), n _ _ _ _ (by omega), n _ _ _ _ (by omega)]
    exact q
  · rw [n 3 _ _ _ (by decide)] at hq
    have q' := gq q hq
    rw [n _ _ _ _ (by omega)] at q'
    rw [e 11 (by decide), n _ _ _ _ (by omega)]
    exact q'
  · by_cases ev : v = A 4
    · subst ev
      refine ⟨fun k hk => ?_, ?_, ?_⟩
      · rw [wp_w hk]
        exact e12' k hk
      · rw [wp_k.1]
        exact e13'
      · rw [wp_k.2]
        exact e14'
    · obtain ⟨g1, g2, g3⟩ := gw v hv
      refine ⟨fun k hk => ?_, ?_, ?_⟩
      · have q := g1 k hk
        rw [wp_n (by omega)] at q
        rw [e12 _ (by omega), wp_n (by omega)]
        exact q
      · rw [wp_n (by omega)] at g2
        rw [e13 v ev, wp_n (by omega)]
        exact g2
      · rw [wp_n (by omega)] at g3
        rw [e14 v ev, wp_n (by omega)]
        exact g3
