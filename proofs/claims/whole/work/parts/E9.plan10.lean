/-! ===== plans: whole texts ===== -/
theorem lay_Rg {h : aH} {a k : Nat} {x : Option Nat} (hn : ∀ q ∈ RT0, ¬ (q.1 = a ∧ q.2.1 = k)) (hl : LAY h) : LAY (hR h a k x) := by
  refine ⟨hl.1, fun q hq => ?_⟩
  show (hR h a k x).2.2.2 q.1 q.2.1 = _
  rw [rR_hR, if_neg (hn q hq)]
  exact hl.2 q hq
theorem cs_Rg {h : aH} {c a k : Nat} {x : Option Nat} (h1 : a ≠ 26) (h2 : a ≠ 27) (h3 : a < 136) (hs : CS h c) : CS (hR h a k x) c := by
  obtain ⟨k0, k1, k2, k3, k4, k5, k6⟩ := hs
  refine ⟨k0, k1, ?_, fun y h1 h2 => ?_, ?_, ?_, ?_⟩
  · show (hR h a k x).2.2.2 c 0 = _
    rw [rR_hR, if_neg (by omega)]
    exact k2
  · show (hR h a k x).2.2.2 c y = _
    rw [rR_hR, if_neg (by omega)]
    exact k3 y h1 h2
  · show (hR h a k x).2.2.2 (c + 1) 0 = _
    rw [rR_hR, if_neg (by omega)]
    exact k4
  · show (hR h a k x).2.2.2 (c + 1) 1 = _
    rw [rR_hR, if_neg (by omega)]
    exact k5
  · show (hR h a k x).2.2.2 (c + 1) 2 = _
    rw [rR_hR, if_neg (by omega)]
    exact k6
theorem bS_nar (t : Nat) : vp_nar .byte (bS t) = bS t := by
  have h1 : bS t = (bS t).toInt8.toInt32 := by
    unfold bS
    rw [Int8.toInt8_toInt32]
  rw [h1]
  exact nar_byt _
/-- the reference opens a text -/
theorem r_begins {k : aH} (kl : LAY k) {T : Nat → Nat} (tb : ∀ j, T j < 256) (t120 : ∀ j, k.2.1 120 j = bS (T j)) {n t mo : Nat} (e11 : k.2.1 113 11 = nI t) (hn : n ≤ t) (ht : t ≤ 900) (hm : n ≤ mo) (mo9 : mo ≤ 900) : ∃ k', f_X12_begins k 113 (nI n) (nI mo) = some (nI 1, k') ∧ FR k k' [121] [] [] [11, 12, 13, 14, 15, 16, 18, 19, 20] ∧ RC k' T n 0 := by
  have lp : f_X12_begins_l26 113 (nI n) (nI 0) (hI k 113 12 (nI n)) = some (wI (hI k 113 12 (nI n)) 121 (setF ((hI k 113 12 (nI n)).2.1 121) 0 n (fun j => bS (T j)))) := by
    refine for0 (body := fun zz : Int32 × aH => f_X12_begins_b26 113 (nI n) zz.1 zz.2) (fun j => (nI j, wI (hI k 113 12 (nI n)) 121 (setF ((hI k 113 12 (nI n)).2.1 121) 0 j (fun j => bS (T j))))) (n) (e := wI (hI k 113 12 (nI n)) 121 (setF ((hI k 113 12 (nI n)).2.1 121) 0 n (fun j => bS (T j)))) (by rw [setF_0, wI_self]) (by omega) (fun j hj => ?_) ?_
    · rw [← setF_s0, ← hI_set]
      simp (disch := first | assumption | omega | decide | ((repeat first | apply lyI | apply lyJ | apply lywI | apply lywJ | apply csI | apply csJ | apply cswI | apply cswJ); assumption)) only [f_X12_begins_b26, SM, rI_eq, rI_ne, rI_nk, rJ_eq, rJ_ne, rJ_nk, rI_J, rJ_I, LI, ↓li_m1, nI_add, pk_mul, nn_sub, nn_m1, nn_div, nn_rem, nn_nz, nn_mod, nJ_l, lN_add, lN_mul, nn_tb1, nI_bt, nn_and, nn_or, nn_xor, nn_shr, nn_1shl, nn_31, il_p, il_n, it_p, it_n, ie_p, ie_n, ie_b, ie_b1, ie_m, ie_mm, it_m, it_m0, il_m0, bI_rZ, Option.bind_some, bd2_some, Nat.add_zero, Nat.zero_add, if_true, if_false, Bool.false_eq_true, eq_self, hI_R, hJ_R, ng_t, ng_e, wI_n, t120, bS_nar]
    · simp (disch := first | assumption | omega | decide | ((repeat first | apply lyI | apply lyJ | apply lywI | apply lywJ | apply csI | apply csJ | apply cswI | apply cswJ); assumption)) only [f_X12_begins_b26, SM, LI, ↓li_m1, nI_add, pk_mul, nn_sub, nn_m1, nn_div, nn_rem, nn_nz, nn_mod, nJ_l, lN_add, lN_mul, nn_tb1, nI_bt, nn_and, nn_or, nn_xor, nn_shr, nn_1shl, nn_31, il_p, il_n, it_p, it_n, ie_p, ie_n, ie_b, ie_b1, ie_m, ie_mm, it_m, it_m0, il_m0, bI_rZ, Option.bind_some, bd2_some, Nat.add_zero, Nat.zero_add, if_true, if_false, Bool.false_eq_true, eq_self, hI_R, hJ_R, ng_t, ng_e]
  let g := wI (hI k 113 12 (nI n)) 121 (setF ((hI k 113 12 (nI n)).2.1 121) 0 n (fun j => bS (T j)))
  have fg : FR k g [121] [] [] [11, 12, 13, 14, 15, 16, 18, 19, 20] := (fr_1 (by decide)).tr (FR.wI (by decide) (by decide) (by decide))
  let g' := hI (hI (hI (hI (hI g 113 11 (nI 0)) 113 19 (nI 0)) 113 18 m1) 113 15 (nI 0)) 113 20 (nI 0)
  have fg' : FR k g' [121] [] [] [11, 12, 13, 14, 15, 16, 18, 19, 20] := ((((fg.tr (fr_1 (by decide))).tr (fr_1 (by decide))).tr (fr_1 (by decide))).tr (fr_1 (by decide))).tr (fr_1 (by decide))
  have lg' : LAY g' := fg'.lay kl
  have g12 : g.2.1 113 12 = nI n := by
    show (wI (hI k 113 12 (nI n)) 121 _).2.1 113 12 = _
    rw [wI_n (by decide), rI_eq]
  have rx : RXT g' T n := by
    refine ⟨by omega, ?_, tb, fun j hj => ?_⟩
    · show (hI (hI (hI (hI (hI g 113 11 (nI 0)) 113 19 (nI 0)) 113 18 m1) 113 15 (nI 0)) 113 20 (nI 0)).2.1 113 12 = _
      rw [rI_nk (by decide), rI_nk (by decide), rI_nk (by decide), rI_nk (by decide), rI_nk (by decide)]
      exact g12
    · show g.2.1 121 j = _
      show (wI (hI k 113 12 (nI n)) 121 (setF ((hI k 113 12 (nI n)).2.1 121) 0 n (fun j => bS (T j)))).2.1 121 j = _
      rw [wI_s, setF_in0 hj]
  have e15 : g'.2.1 113 15 = nI (tpo T n 0) := by
    show (hI (hI (hI (hI (hI g 113 11 (nI 0)) 113 19 (nI 0)) 113 18 m1) 113 15 (nI 0)) 113 20 (nI 0)).2.1 113 15 = _
    rw [rI_nk (by decide), rI_eq]
    rfl
  obtain ⟨k', r, f, x⟩ := r_ahead1 lg' rx e15
  refine ⟨k', ?_, fg'.tr (f.mono (by decide) (by decide) (by decide) (by decide)), f.lay lg', x, ?_, ?_, ?_⟩
  · have r' : f_X12_ahead (hI (hI (hI (hI (hI g 113 11 (nI 0)) 113 19 (nI 0)) 113 18 m1) 113 15 (nI 0)) 113 20 (nI 0)) 113 = some k' := r
    have lg : LAY g := fg.lay kl
    have lp' : f_X12_begins_l26 113 (nI n) (nI 0) (hI k 113 12 (nI n)) = some g := lp
    simp (disch := first | assumption | omega | decide | ((repeat first | apply lyI | apply lyJ | apply lywI | apply lywJ | apply csI | apply csJ | apply cswI | apply cswJ); assumption)) only [f_X12_begins, SM, LI, ↓li_m1, nI_add, pk_mul, nn_sub, nn_m1, nn_div, nn_rem, nn_nz, nn_mod, nJ_l, lN_add, lN_mul, nn_tb1, nI_bt, nn_and, nn_or, nn_xor, nn_shr, nn_1shl, nn_31, il_p, il_n, it_p, it_n, ie_p, ie_n, ie_b, ie_b1, ie_m, ie_mm, it_m, it_m0, il_m0, bI_rZ, Option.bind_some, bd2_some, Nat.add_zero, Nat.zero_add, if_true, if_false, Bool.false_eq_true, eq_self, hI_R, hJ_R, ng_t, ng_e, e11, lp', r']
  · rw [f.2.2.2.2.2 19 (by decide)]
    show (hI (hI (hI (hI (hI g 113 11 (nI 0)) 113 19 (nI 0)) 113 18 m1) 113 15 (nI 0)) 113 20 (nI 0)).2.1 113 19 = _
    rw [rI_nk (by decide), rI_nk (by decide), rI_nk (by decide), rI_eq]
  · rw [f.2.2.2.2.2 18 (by decide)]
    show (hI (hI (hI (hI (hI g 113 11 (nI 0)) 113 19 (nI 0)) 113 18 m1) 113 15 (nI 0)) 113 20 (nI 0)).2.1 113 18 = _
    rw [rI_nk (by decide), rI_nk (by decide), rI_eq]
  · rw [f.2.2.2.2.2 11 (by decide)]
    show (hI (hI (hI (hI (hI g 113 11 (nI 0)) 113 19 (nI 0)) 113 18 m1) 113 15 (nI 0)) 113 20 (nI 0)).2.1 113 11 = _
    rw [rI_nk (by decide), rI_nk (by decide), rI_nk (by decide), rI_nk (by decide), rI_eq]
/-- what a plan's text is: a fault and its place, or rows -/
def pFin (T : Nat → Nat) (n : Nat) (o : (Nat × Nat) ⊕ (Nat × (Nat → Nat → Nat) × Nat × Nat × (Nat → Nat))) : (Nat × Nat) ⊕ ((Nat → Nat → Nat) × Nat) := match o with
  | .inl fq => .inl fq
  | .inr (i, K, N, dp, _) => if dp = 0 then .inr (K, N) else .inl (2, frI T n i)
def FCp (h : aH) (p : Nat) (C : Nat → Nat) (x : Option (Int32 × aH)) (o : (Nat × Nat) ⊕ ((Nat → Nat → Nat) × Nat)) : Prop := match o with
  | .inl (f, q) => f ≠ 0 ∧ f < 100 ∧ ∃ h', x = some (nI 0, h') ∧ FR h h' [4, p, p + 1, p + 2, p + 3, p + 4, p + 5] [4] [] [] ∧ FL h' f q
  | .inr (K, N) => (∃ op, PVp C K N 0 op) ∧ ∃ h', x = some (nI 1, h') ∧ FR h h' [4, p, p + 1, p + 2, p + 3, p + 4, p + 5] [4] [] [] ∧ LAY h' ∧ PCp h' p K N ∧ h'.2.1 p 7 = nI 1 ∧ h'.2.1 4 12 = nI 0 ∧ h'.2.1 4 13 = m1 ∧ h'.2.1 4 6 = nI 0
def G11 : List Nat := [11, 12, 13, 14, 15, 16, 18, 19, 20, 21, 29, 30]
def FRp (k0 k : aH) (o : (Nat × Nat) ⊕ ((Nat → Nat → Nat) × Nat)) : Prop := FR k0 k [114, 121, 125] [] [] [3, 11, 12, 13, 14, 15, 16, 17, 18, 19, 20, 21, 29, 30] ∧ k.2.1 113 11 = nI 0 ∧ match o with
  | .inl (f, q) => (∀ x, x < 1607 → k.2.1 114 x = k0.2.1 114 x) ∧ k.2.1 113 3 = nI 9 ∧ k.2.1 113 17 = nI f ∧ k.2.1 113 18 = nI q
  | .inr (K, N) => (∀ x, x < 1607 → x ≠ 7 → (x < 148 ∨ 400 ≤ x) → k.2.1 114 x = k0.2.1 114 x) ∧ k.2.1 114 7 = nI N ∧ (∀ r j, r < N → j < 4 → k.2.1 114 (148 + 4 * r + j) = nI (K r j)) ∧ k.2.1 113 3 = nI 0 ∧ k.2.1 113 17 = nI 0 ∧ k.2.1 113 18 = m1
def FRr (o : (Nat × Nat) ⊕ ((Nat → Nat → Nat) × Nat)) : Int32 := match o with
  | .inl _ => m1
  | .inr (K, N) => nI (sgK K N)
theorem wN_900 : ∀ d, d ≤ 901 → d + 1 < wN := fun d hd => by
  unfold wN
  omega
