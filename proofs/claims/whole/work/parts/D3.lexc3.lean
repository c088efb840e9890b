/-! ===== the class reads tokens ===== -/
/-- the tokens lie in the lexer's rows -/
def LX (h : aH) (T : Nat → Nat) (n m : Nat) : Prop := (m ≤ 900 ∧ n ≤ 900 ∧ tcI T n m ≤ 1 ∧ ∀ i, i < m → 2 ≤ tcI T n i) ∧ ∀ i, i ≤ m → h.2.1 7 i = nI (tcI T n i) ∧ h.2.1 8 i = nI (frI T n i) ∧ (tcI T n i = 2 → h.2.1 9 i = nI (nuI T n i)) ∧ (tcI T n i = 6 → h.2.2.1 10 i = lN (c5 (wdI T n i)))
/-- the i-th token is looked at -/
def CL (h : aH) (T : Nat → Nat) (n i : Nat) : Prop := h.2.1 4 9 = nI i ∧ h.2.1 4 10 = nI (tcI T n i) ∧ (tcI T n i = 6 → h.2.2.1 4 11 = lN (c5 (wdI T n i))) ∧ h.2.1 4 12 = nI 0 ∧ h.2.1 4 13 = m1 ∧ h.2.1 4 6 = nI 0
def LC (h : aH) (T : Nat → Nat) (n m i : Nat) : Prop := LAY h ∧ LX h T n m ∧ CL h T n i ∧ i ≤ m
/-- a fault is kept -/
def FL (h : aH) (k p : Nat) : Prop := LAY h ∧ h.2.1 4 12 = nI k ∧ h.2.1 4 13 = nI p ∧ h.2.1 4 6 = nI 0
theorem lx_fr {h h' : aH} {T : Nat → Nat} {n m : Nat} {cI cJ f0 f1 : List Nat} (hf : FR h h' cI cJ f0 f1) (h1 : 7 ∉ cI) (h2 : 8 ∉ cI) (h3 : 9 ∉ cI) (h4 : 10 ∉ cJ) (hx : LX h T n m) : LX h' T n m := by
  unfold LX
  rw [hf.I 7 h1 (by decide) (by decide), hf.I 8 h2 (by decide) (by decide), hf.I 9 h3 (by decide) (by decide), hf.J 10 h4]
  exact hx
theorem lc_fr {h h' : aH} {T : Nat → Nat} {n m i : Nat} {cI cJ f0 f1 : List Nat} (hf : FR h h' cI cJ f0 f1) (h1 : ∀ x ∈ cI, x < 4 ∨ 10 < x) (h2 : ∀ x ∈ cJ, x < 4 ∨ 10 < x) (lc : LC h T n m i) : LC h' T n m i := by
  obtain ⟨a, b, c, d⟩ := lc
  have k : ∀ x, 4 ≤ x → x ≤ 10 → x ∉ cI := fun x a b e => by have := h1 x e; omega
  have k2 : ∀ x, 4 ≤ x → x ≤ 10 → x ∉ cJ := fun x a b e => by have := h2 x e; omega
  refine ⟨hf.lay a, lx_fr hf (k 7 (by decide) (by decide)) (k 8 (by decide) (by decide)) (k 9 (by decide) (by decide)) (k2 10 (by decide) (by decide)) b, ?_, d⟩
  unfold CL
  rw [hf.I 4 (k 4 (by decide) (by decide)) (by decide) (by decide), hf.J 4 (k2 4 (by decide) (by decide))]
  exact c
theorem fl_fr {h h' : aH} {k p : Nat} {cI cJ f0 f1 : List Nat} (hf : FR h h' cI cJ f0 f1) (h1 : 4 ∉ cI) (fl : FL h k p) : FL h' k p := by
  obtain ⟨a, b⟩ := fl
  refine ⟨hf.lay a, ?_⟩
  rw [hf.I 4 h1 (by decide) (by decide)]
  exact b
theorem lc_lt {h : aH} {T : Nat → Nat} {n m i : Nat} (lc : LC h T n m i) (h2 : 2 ≤ tcI T n i) : i < m := by
  have := lc.2.1.1.2.2.1
  rcases Nat.lt_or_ge i m with u | u
  · exact u
  · have : i = m := by have := lc.2.2.2; omega
    subst this
    omega
theorem tc_le {T : Nat → Nat} {n i : Nat} : tcI T n i < 35 := by
  unfold tcI tcF
  split
  · decide
  · split
    · split
      · decide
      · split
        · rename_i k hk
          have := (firstB_s.mp hk).1
          omega
        · decide
    · split
      · split <;> decide
      · split
        · decide
        · split
          · decide
          · split <;> decide
theorem nu_le {T : Nat → Nat} {n i : Nat} (h : tcI T n i = 2) : nuI T n i < 10000 := by
  have hn : ¬ n ≤ frI T n i := fun e => by rw [tc_0.mpr e] at h; cases h
  have fb := (fr_le (T := T) (n := n) (i := i)).2
  obtain ⟨a1, a2, a3, a4⟩ := rn_in (p := chD) (T := T) (n := n) (e := frI T n i) fb
  have l4 : rnE chD T n (frI T n i) - frI T n i ≤ 4 := by
    unfold tcI tcF at h
    rw [if_neg hn] at h
    split at h
    · split at h
      · cases h
      · split at h
        · omega
        · cases h
    · split at h
      · split at h
        · cases h
        · omega
      · split at h
        · cases h
        · split at h
          · cases h
          · split at h <;> cases h
  refine Nat.lt_of_lt_of_le (nu_lt (T := T) (f := frI T n i) (fun j hj => a3 _ (by omega) (by omega))) ?_
  exact Nat.pow_le_pow_right (by decide) l4
theorem x_adv1 {h : aH} (hl : LAY h) {T : Nat → Nat} {n m i : Nat} (lx : LX h T n m) (hi : i ≤ m) (a : Int32) (ha : (a = m1 ∧ i = 0) ∨ (∃ j, a = nI j ∧ j + 1 = i)) (e9 : h.2.1 4 9 = a) (e12 : h.2.1 4 12 = nI 0) (e13 : h.2.1 4 13 = m1) (e6 : h.2.1 4 6 = nI 0) : ∃ h', f_X4_advance h 4 = some h' ∧ FR h h' [4] [4] [] [] ∧ LC h' T n m i := by
  obtain ⟨⟨m9, n9, lx1, lx2⟩, lx3⟩ := id lx
  obtain ⟨r7, r8, r9, r10⟩ := lx3 i hi
  let g := hJ (hI (hI h 4 9 (nI i)) 4 10 (nI (tcI T n i))) 4 11 (h.2.2.1 10 i)
  have fg : FR h g [4] [4] [] [] := ((FR.hI (by decide) (by decide) (by decide)).tr (FR.hI (by decide) (by decide) (by decide))).tr (FR.hJ (by decide))
  refine ⟨g, ?_, fg, fg.lay hl, lx_fr fg (by decide) (by decide) (by decide) (by decide) lx, ⟨rfl, rfl, fun e => ?_, e12, e13, e6⟩, hi⟩
  · have hd : f_X4_advance h 4 = f_X4_advance_j20 (hI h 4 9 (nI i)) 4 := by
      rcases ha with ⟨rfl, rfl⟩ | ⟨j, rfl, rfl⟩
      · have z : m1 + (1 : Int32) = nI 0 := by decide
        have q1 : gI h 4 4 9 = some m1 := (gI_L hl 9 (by decide) (by decide)).trans (congrArg some e9)
        have q2 : pI h 4 4 9 (nI 0) = some (hI h 4 9 (nI 0)) := pI_L hl 9 _ (by decide) (by decide)
        unfold f_X4_advance
        rw [q1, Option.bind_some, if_neg (show ¬ (900 : Int32) ≤ m1 by decide), Option.bind_some, z, q2, Option.bind_some]
      · simp (disch := first | assumption | omega | decide | ((repeat first | apply lyI | apply lyJ | apply lywI | apply lywJ | apply csI | apply csJ | apply cswI | apply cswJ); assumption)) only [f_X4_advance, SX, LI, ↓li_m1, nI_add, pk_mul, nn_sub, nn_m1, nn_div, nn_rem, nn_nz, nn_mod, nJ_l, lN_add, lN_mul, nn_tb1, nI_bt, nn_and, nn_or, nn_xor, nn_shr, nn_1shl, nn_31, il_p, il_n, it_p, it_n, ie_p, ie_n, ie_b, ie_b1, ie_m, ie_mm, it_m, it_m0, il_m0, bI_rZ, Option.bind_some, bd2_some, Nat.add_zero, Nat.zero_add, if_true, if_false, Bool.false_eq_true, eq_self, hI_R, hJ_R, ng_t, ng_e, e9]
    have l1 : LAY (hI h 4 9 (nI i)) := hl
    rw [hd]
    simp (disch := first | assumption | omega | decide | ((repeat first | apply lyI | apply lyJ | apply lywI | apply lywJ | apply csI | apply csJ | apply cswI | apply cswJ); assumption)) only [f_X4_advance_j20, SX, rI_eq, rI_ne, rI_nk, rJ_eq, rJ_ne, rJ_nk, rI_J, rJ_I, LI, ↓li_m1, nI_add, pk_mul, nn_sub, nn_m1, nn_div, nn_rem, nn_nz, nn_mod, nJ_l, lN_add, lN_mul, nn_tb1, nI_bt, nn_and, nn_or, nn_xor, nn_shr, nn_1shl, nn_31, il_p, il_n, it_p, it_n, ie_p, ie_n, ie_b, ie_b1, ie_m, ie_mm, it_m, it_m0, il_m0, bI_rZ, Option.bind_some, bd2_some, Nat.add_zero, Nat.zero_add, if_true, if_false, Bool.false_eq_true, eq_self, hI_R, hJ_R, ng_t, ng_e, r7]
    rfl
  · rw [show g.2.2.1 4 11 = h.2.2.1 10 i from rJ_eq]
    exact r10 e
theorem x_adv {h : aH} {T : Nat → Nat} {n m i : Nat} (lc : LC h T n m i) (hi : i < m) : ∃ h', f_X4_advance h 4 = some h' ∧ FR h h' [4] [4] [] [] ∧ LC h' T n m (i + 1) := by
  obtain ⟨hl, lx, ⟨e9, e10, e11, e12, e13, e6⟩, -⟩ := lc
  exact x_adv1 hl lx (by omega) (nI i) (Or.inr ⟨i, rfl, rfl⟩) e9 e12 e13 e6
def fkN (T : Nat → Nat) (n i k : Nat) : Nat := if tcI T n i = 1 then 1 else k
theorem x_ref {h : aH} {T : Nat → Nat} {n m i : Nat} (lc : LC h T n m i) (k : Nat) : ∃ h', f_X4_refuseHere h 4 (nI k) = some (nI 0, h') ∧ FR h h' [4] [4] [] [] ∧ FL h' (fkN T n i k) (frI T n i) := by
  obtain ⟨hl, lx, ⟨e9, e10, e11, e12, e13, e6⟩, hi⟩ := lc
  obtain ⟨⟨m9, n9, lx1, lx2⟩, lx3⟩ := id lx
  obtain ⟨r7, r8, r9, r10⟩ := lx3 i hi
  have tl := tc_le (T := T) (n := n) (i := i)
  refine ⟨hI (hI h 4 12 (nI (fkN T n i k))) 4 13 (nI (frI T n i)), ?_, (FR.hI (by decide) (by decide) (by decide)).tr (FR.hI (by decide) (by decide) (by decide)), hl, rfl, rfl, e6⟩
  by_cases h1 : tcI T n i = 1
  · have ek : fkN T n i k = 1 := if_pos h1
    rw [h1] at e10
    rw [ek]
    simp (disch := first | assumption | omega | decide | ((repeat first | apply lyI | apply lyJ | apply lywI | apply lywJ | apply csI | apply csJ | apply cswI | apply cswJ); assumption)) only [f_X4_refuseHere, f_X4_refuseHere_j14, SX, rI_eq, rI_ne, rI_nk, rJ_eq, rJ_ne, rJ_nk, rI_J, rJ_I, LI, ↓li_m1, nI_add, pk_mul, nn_sub, nn_m1, nn_div, nn_rem, nn_nz, nn_mod, nJ_l, lN_add, lN_mul, nn_tb1, nI_bt, nn_and, nn_or, nn_xor, nn_shr, nn_1shl, nn_31, il_p, il_n, it_p, it_n, ie_p, ie_n, ie_b, ie_b1, ie_m, ie_mm, it_m, it_m0, il_m0, bI_rZ, Option.bind_some, bd2_some, Nat.add_zero, Nat.zero_add, if_true, if_false, Bool.false_eq_true, eq_self, hI_R, hJ_R, ng_t, ng_e, e10, e9, r8]
  · have ek : fkN T n i k = k := if_neg h1
    rw [ek]
    simp (disch := first | assumption | omega | decide | ((repeat first | apply lyI | apply lyJ | apply lywI | apply lywJ | apply csI | apply csJ | apply cswI | apply cswJ); assumption)) only [f_X4_refuseHere, f_X4_refuseHere_j14, SX, rI_eq, rI_ne, rI_nk, rJ_eq, rJ_ne, rJ_nk, rI_J, rJ_I, LI, ↓li_m1, nI_add, pk_mul, nn_sub, nn_m1, nn_div, nn_rem, nn_nz, nn_mod, nJ_l, lN_add, lN_mul, nn_tb1, nI_bt, nn_and, nn_or, nn_xor, nn_shr, nn_1shl, nn_31, il_p, il_n, it_p, it_n, ie_p, ie_n, ie_b, ie_b1, ie_m, ie_mm, it_m, it_m0, il_m0, bI_rZ, Option.bind_some, bd2_some, Nat.add_zero, Nat.zero_add, if_true, if_false, Bool.false_eq_true, eq_self, hI_R, hJ_R, ng_t, ng_e, e10, e9, r8]
theorem x_take {h : aH} {T : Nat → Nat} {n m i w : Nat} (lc : LC h T n m i) (hw : 2 ≤ w) (hw2 : w < 100) : (tcI T n i = w ∧ ∃ h', f_X4_take h 4 (nI w) = some (nI 1, h') ∧ FR h h' [4] [4] [] [] ∧ LC h' T n m (i + 1)) ∨ (tcI T n i ≠ w ∧ ∃ h', f_X4_take h 4 (nI w) = some (nI 0, h') ∧ FR h h' [4] [4] [] [] ∧ FL h' (fkN T n i 2) (frI T n i)) := by
  obtain ⟨hl, lx, ⟨e9, e10, e11, e12, e13, e6⟩, hi⟩ := id lc
  have tl := tc_le (T := T) (n := n) (i := i)
  by_cases ht : tcI T n i = w
  · obtain ⟨h', r, f, l⟩ := x_adv lc (lc_lt lc (by omega))
    exact Or.inl ⟨ht, h', by simp (disch := first | assumption | omega | decide | ((repeat first | apply lyI | apply lyJ | apply lywI | apply lywJ | apply csI | apply csJ | apply cswI | apply cswJ); assumption)) only [f_X4_take, SX, LI, ↓li_m1, nI_add, pk_mul, nn_sub, nn_m1, nn_div, nn_rem, nn_nz, nn_mod, nJ_l, lN_add, lN_mul, nn_tb1, nI_bt, nn_and, nn_or, nn_xor, nn_shr, nn_1shl, nn_31, il_p, il_n, it_p, it_n, ie_p, ie_n, ie_b, ie_b1, ie_m, ie_mm, it_m, it_m0, il_m0, bI_rZ, Option.bind_some, bd2_some, Nat.add_zero, Nat.zero_add, if_true, if_false, Bool.false_eq_true, eq_self, hI_R, hJ_R, ng_t, ng_e, e10, r], f, l⟩
  · obtain ⟨h', r, f, l⟩ := x_ref lc 2
    have rz : rZ (nI 0) = some (nI 0) := rfl
    exact Or.inr ⟨ht, h', by simp (disch := first | assumption | omega | decide | ((repeat first | apply lyI | apply lyJ | apply lywI | apply lywJ | apply csI | apply csJ | apply cswI | apply cswJ); assumption)) only [f_X4_take, SX, LI, ↓li_m1, nI_add, pk_mul, nn_sub, nn_m1, nn_div, nn_rem, nn_nz, nn_mod, nJ_l, lN_add, lN_mul, nn_tb1, nI_bt, nn_and, nn_or, nn_xor, nn_shr, nn_1shl, nn_31, il_p, il_n, it_p, it_n, ie_p, ie_n, ie_b, ie_b1, ie_m, ie_mm, it_m, it_m0, il_m0, bI_rZ, Option.bind_some, bd2_some, Nat.add_zero, Nat.zero_add, if_true, if_false, Bool.false_eq_true, eq_self, hI_R, hJ_R, ng_t, ng_e, e10, r, rz], f, l⟩
theorem x_number {h : aH} {T : Nat → Nat} {n m i lo hi' : Nat} (lc : LC h T n m i) (hb : hi' < 100000) (hlo : lo < 100000) : (tcI T n i = 2 ∧ lo ≤ nuI T n i ∧ nuI T n i ≤ hi' ∧ ∃ h', f_X4_takeNumber h 4 (nI lo) (nI hi') = some (nI (nuI T n i), h') ∧ FR h h' [4] [4] [] [] ∧ LC h' T n m (i + 1)) ∨ (¬ (tcI T n i = 2 ∧ lo ≤ nuI T n i ∧ nuI T n i ≤ hi') ∧ ∃ h', f_X4_takeNumber h 4 (nI lo) (nI hi') = some (m1, h') ∧ FR h h' [4] [4] [] [] ∧ FL h' (fkN T n i (if tcI T n i = 2 then 4 else 2)) (frI T n i)) := by
  obtain ⟨hl, lx, ⟨e9, e10, e11, e12, e13, e6⟩, hi⟩ := id lc
  obtain ⟨⟨m9, n9, lx1, lx2⟩, lx3⟩ := id lx
  obtain ⟨r7, r8, r9, r10⟩ := lx3 i hi
  have tl := tc_le (T := T) (n := n) (i := i)
  by_cases ht : tcI T n i = 2
  · have nl := nu_le ht
    have q9 := r9 ht
    have e10' : h.2.1 4 10 = nI 2 := by rw [e10, ht]
    obtain ⟨h', r, f, l⟩ := x_ref lc 4
    have bad : (nuI T n i < lo ∨ hi' < nuI T n i) → _ := fun hx => (Or.inr ⟨fun e => by omega, h', by rcases Nat.lt_or_ge (nuI T n i) lo with u | u <;> simp (disch := first | assumption | omega | decide | ((repeat first | apply lyI | apply lyJ | apply lywI | apply lywJ | apply csI | apply csJ | apply cswI | apply cswJ); assumption)) only [f_X4_takeNumber, f_X4_takeNumber_j36, SX, LI, ↓li_m1, nI_add, pk_mul, nn_sub, nn_m1, nn_div, nn_rem, nn_nz, nn_mod, nJ_l, lN_add, lN_mul, nn_tb1, nI_bt, nn_and, nn_or, nn_xor, nn_shr, nn_1shl, nn_31, il_p, il_n, it_p, it_n, ie_p, ie_n, ie_b, ie_b1, ie_m, ie_mm, it_m, it_m0, il_m0, bI_rZ, Option.bind_some, bd2_some, Nat.add_zero, Nat.zero_add, if_true, if_false, Bool.false_eq_true, eq_self, hI_R, hJ_R, ng_t, ng_e, e10', e9, q9, r], f, by rw [if_pos ht]; exact l⟩ : (tcI T n i = 2 ∧ lo ≤ nuI T n i ∧ nuI T n i ≤ hi' ∧ ∃ h', f_X4_takeNumber h 4 (nI lo) (nI hi') = some (nI (nuI T n i), h') ∧ FR h h' [4] [4] [] [] ∧ LC h' T n m (i + 1)) ∨ (¬ (tcI T n i = 2 ∧ lo ≤ nuI T n i ∧ nuI T n i ≤ hi') ∧ ∃ h', f_X4_takeNumber h 4 (nI lo) (nI hi') = some (m1, h') ∧ FR h h' [4] [4] [] [] ∧ FL h' (fkN T n i (if tcI T n i = 2 then 4 else 2)) (frI T n i)))
    rcases Nat.lt_or_ge (nuI T n i) lo with u | u
    · exact bad (Or.inl u)
    · rcases Nat.lt_or_ge hi' (nuI T n i) with v | v
      · exact bad (Or.inr v)
      · obtain ⟨h', r, f, l⟩ := x_adv lc (lc_lt lc (by omega))
        exact Or.inl ⟨ht, u, v, h', by simp (disch := first | assumption | omega | decide | ((repeat first | apply lyI | apply lyJ | apply lywI | apply lywJ | apply csI | apply csJ | apply cswI | apply cswJ); assumption)) only [f_X4_takeNumber, SX, LI, ↓li_m1, nI_add, pk_mul, nn_sub, nn_m1, nn_div, nn_rem, nn_nz, nn_mod, nJ_l, lN_add, lN_mul, nn_tb1, nI_bt, nn_and, nn_or, nn_xor, nn_shr, nn_1shl, nn_31, il_p, il_n, it_p, it_n, ie_p, ie_n, ie_b, ie_b1, ie_m, ie_mm, it_m, it_m0, il_m0, bI_rZ, Option.bind_some, bd2_some, Nat.add_zero, Nat.zero_add, if_true, if_false, Bool.false_eq_true, eq_self, hI_R, hJ_R, ng_t, ng_e, e10', e9, q9, r], f, l⟩
  · obtain ⟨h', r, f, l⟩ := x_ref lc 2
    exact Or.inr ⟨fun e => ht e.1, h', by simp (disch := first | assumption | omega | decide | ((repeat first | apply lyI | apply lyJ | apply lywI | apply lywJ | apply csI | apply csJ | apply cswI | apply cswJ); assumption)) only [f_X4_takeNumber, SX, LI, ↓li_m1, nI_add, pk_mul, nn_sub, nn_m1, nn_div, nn_rem, nn_nz, nn_mod, nJ_l, lN_add, lN_mul, nn_tb1, nI_bt, nn_and, nn_or, nn_xor, nn_shr, nn_1shl, nn_31, il_p, il_n, it_p, it_n, ie_p, ie_n, ie_b, ie_b1, ie_m, ie_mm, it_m, it_m0, il_m0, bI_rZ, Option.bind_some, bd2_some, Nat.add_zero, Nat.zero_add, if_true, if_false, Bool.false_eq_true, eq_self, hI_R, hJ_R, ng_t, ng_e, e10, r], f, by rw [if_neg ht]; exact l⟩
theorem x_open {h : aH} (hl : LAY h) {T : Nat → Nat} (ht : TT h T) (hw : WDS h) {n : Nat} (hn : n ≤ 900) : ∃ h' m, f_X4_open h 4 (nI n) = some h' ∧ FR h h' [4, 7, 8, 9] [4, 10] [] [] ∧ LC h' T n m 0 := by
  obtain ⟨m, mn, tm, tl⟩ := t_end T n
  let h7 := hI (hI (hI (hI (hI h 4 7 (nI n)) 4 6 (nI 0)) 4 8 (nI 0)) 4 12 (nI 0)) 4 13 m1
  have f7 : FR h h7 [4, 7, 8, 9] [4, 10] [] [] := ((((FR.hI (by decide) (by decide) (by decide)).tr (FR.hI (by decide) (by decide) (by decide))).tr (FR.hI (by decide) (by decide) (by decide))).tr (FR.hI (by decide) (by decide) (by decide))).tr (FR.hI (by decide) (by decide) (by decide))
  have lp : ∃ g, f_X4_open_l29 4 (nI 1) (nI 0) h7 = some g ∧ FR h7 g [4, 7, 8, 9] [4, 10] [] [] ∧ (∀ k, k ≠ 8 → g.2.1 4 k = h7.2.1 4 k) ∧ LX g T n m := by
    refine whl0 (fun i (s : Int32 × Int32 × aH) => ∃ g, s = ((if i ≤ m then nI 1 else nI 0), nI i, g) ∧ i ≤ m + 1 ∧ FR h7 g [4, 7, 8, 9] [4, 10] [] [] ∧ g.2.1 4 8 = nI (tpo T n i) ∧ (∀ k, k ≠ 8 → g.2.1 4 k = h7.2.1 4 k) ∧ ∀ j, j < i → g.2.1 7 j = nI (tcI T n j) ∧ g.2.1 8 j = nI (frI T n j) ∧ (tcI T n j = 2 → g.2.1 9 j = nI (nuI T n j)) ∧ (tcI T n j = 6 → g.2.2.1 10 j = lN (c5 (wdI T n j)))) _ (m + 1) (by omega) ⟨h7, by rw [if_pos (Nat.zero_le m)], by omega, FR.rf, rfl, fun _ _ => rfl, fun j hj => absurd hj (by omega)⟩ ?_
    rintro i _ ⟨g, rfl, hi, fg, e8, ek, ej⟩ -
    have lg := fg.lay (f7.lay hl)
    rcases Nat.lt_or_ge m i with u | u
    · obtain rfl : i = m + 1 := by omega
      refine Or.inr ⟨g, ?_, fg, ek, ⟨⟨by omega, hn, tm, tl⟩, fun j hj => ej j (by omega)⟩⟩
      show f_X4_open_b29 4 (if m + 1 ≤ m then nI 1 else nI 0) (nI (m + 1)) g = _
      rw [if_neg (by omega)]
      rcases Nat.lt_or_ge (m + 1) 901 with v | v
      · simp (disch := first | assumption | omega | decide | ((repeat first | apply lyI | apply lyJ | apply lywI | apply lywJ | apply csI | apply csJ | apply cswI | apply cswJ); assumption)) only [f_X4_open_b29, LI, ↓li_m1, nI_add, pk_mul, nn_sub, nn_m1, nn_div, nn_rem, nn_nz, nn_mod, nJ_l, lN_add, lN_mul, nn_tb1, nI_bt, nn_and, nn_or, nn_xor, nn_shr, nn_1shl, nn_31, il_p, il_n, it_p, it_n, ie_p, ie_n, ie_b, ie_b1, ie_m, ie_mm, it_m, it_m0, il_m0, bI_rZ, Option.bind_some, bd2_some, Nat.add_zero, Nat.zero_add, if_true, if_false, Bool.false_eq_true, eq_self, hI_R, hJ_R, ng_t, ng_e]
      · simp (disch := first | assumption | omega | decide | ((repeat first | apply lyI | apply lyJ | apply lywI | apply lywJ | apply csI | apply csJ | apply cswI | apply cswJ); assumption)) only [f_X4_open_b29, LI, ↓li_m1, nI_add, pk_mul, nn_sub, nn_m1, nn_div, nn_rem, nn_nz, nn_mod, nJ_l, lN_add, lN_mul, nn_tb1, nI_bt, nn_and, nn_or, nn_xor, nn_shr, nn_1shl, nn_31, il_p, il_n, it_p, it_n, ie_p, ie_n, ie_b, ie_b1, ie_m, ie_mm, it_m, it_m0, il_m0, bI_rZ, Option.bind_some, bd2_some, Nat.add_zero, Nat.zero_add, if_true, if_false, Bool.false_eq_true, eq_self, hI_R, hJ_R, ng_t, ng_e]
    · have tg : TT g T := ⟨ht.1, fun j => by rw [(f7.tr fg).I 5 (by decide) (by decide) (by decide)]; exact ht.2 j⟩
      have wg : WDS g := fun k hk => by rw [(f7.tr fg).J 6 (by decide)]; exact hw k hk
      obtain ⟨g', r, f', p8, pk, q8, qk, q9, q10⟩ := x_scan lg tg wg hn (i := i) (by omega) ((ek 7 (by decide)).trans rfl) e8
      have lg' := f'.lay lg
      have tl35 := tc_le (T := T) (n := n) (i := i)
      have key : f_X4_open_b29 4 (nI 1) (nI i) g = some (.inl ((if i + 1 ≤ m then nI 1 else nI 0), nI (i + 1), hI g' 7 i (nI (tcI T n i)))) := by
        rcases Nat.lt_or_ge i m with v | v
        · have := tl i v
          rw [if_pos (by omega)]
          simp (disch := first | assumption | omega | decide | ((repeat first | apply lyI | apply lyJ | apply lywI | apply lywJ | apply csI | apply csJ | apply cswI | apply cswJ); assumption)) only [f_X4_open_b29, f_X4_open_j75, f_X4_open_j74, SX, rI_eq, rI_ne, rI_nk, rJ_eq, rJ_ne, rJ_nk, rI_J, rJ_I, LI, ↓li_m1, nI_add, pk_mul, nn_sub, nn_m1, nn_div, nn_rem, nn_nz, nn_mod, nJ_l, lN_add, lN_mul, nn_tb1, nI_bt, nn_and, nn_or, nn_xor, nn_shr, nn_1shl, nn_31, il_p, il_n, it_p, it_n, ie_p, ie_n, ie_b, ie_b1, ie_m, ie_mm, it_m, it_m0, il_m0, bI_rZ, Option.bind_some, bd2_some, Nat.add_zero, Nat.zero_add, if_true, if_false, Bool.false_eq_true, eq_self, hI_R, hJ_R, ng_t, ng_e, r]
        · obtain rfl : i = m := by omega
          rw [if_neg (by omega)]
          rcases (show tcI T n i = 0 ∨ tcI T n i = 1 by omega) with z | z
          · rw [z] at r ⊢
            simp (disch := first | assumption | omega | decide | ((repeat first | apply lyI | apply lyJ | apply lywI | apply lywJ | apply csI | apply csJ | apply cswI | apply cswJ); assumption)) only [f_X4_open_b29, f_X4_open_j75, f_X4_open_j74, SX, rI_eq, rI_ne, rI_nk, rJ_eq, rJ_ne, rJ_nk, rI_J, rJ_I, LI, ↓li_m1, nI_add, pk_mul, nn_sub, nn_m1, nn_div, nn_rem, nn_nz, nn_mod, nJ_l, lN_add, lN_mul, nn_tb1, nI_bt, nn_and, nn_or, nn_xor, nn_shr, nn_1shl, nn_31, il_p, il_n, it_p, it_n, ie_p, ie_n, ie_b, ie_b1, ie_m, ie_mm, it_m, it_m0, il_m0, bI_rZ, Option.bind_some, bd2_some, Nat.add_zero, Nat.zero_add, if_true, if_false, Bool.false_eq_true, eq_self, hI_R, hJ_R, ng_t, ng_e, r]
          · rw [z] at r ⊢
            simp (disch := first | assumption | omega | decide | ((repeat first | apply lyI | apply lyJ | apply lywI | apply lywJ | apply csI | apply csJ | apply cswI | apply cswJ); assumption)) only [f_X4_open_b29, f_X4_open_j75, f_X4_open_j74, SX, rI_eq, rI_ne, rI_nk, rJ_eq, rJ_ne, rJ_nk, rI_J, rJ_I, LI, ↓li_m1, nI_add, pk_mul, nn_sub, nn_m1, nn_div, nn_rem, nn_nz, nn_mod, nJ_l, lN_add, lN_mul, nn_tb1, nI_bt, nn_and, nn_or, nn_xor, nn_shr, nn_1shl, nn_31, il_p, il_n, it_p, it_n, ie_p, ie_n, ie_b, ie_b1, ie_m, ie_mm, it_m, it_m0, il_m0, bI_rZ, Option.bind_some, bd2_some, Nat.add_zero, Nat.zero_add, if_true, if_false, Bool.false_eq_true, eq_self, hI_R, hJ_R, ng_t, ng_e, r]
      refine Or.inl ⟨((if i + 1 ≤ m then nI 1 else nI 0), nI (i + 1), hI g' 7 i (nI (tcI T n i))), by show f_X4_open_b29 4 (if i ≤ m then nI 1 else nI 0) (nI i) g = _; rw [if_pos u]; exact key, by omega, hI g' 7 i (nI (tcI T n i)), rfl, by omega, (fg.tr (f'.mono (by decide) (by decide) (by decide) (by decide))).tr (FR.hI (by decide) (by decide) (by decide)), p8, fun k hk => (pk k hk).trans (ek k hk), fun j hj => ?_⟩
      by_cases hji : j = i
      · subst hji
        refine ⟨rI_eq, q8, q9, q10⟩
      · obtain ⟨y1, y2, y3⟩ := qk j hji
        obtain ⟨w1, w2, w3, w4⟩ := ej j (by omega)
        refine ⟨?_, ?_, fun e => ?_, fun e => ?_⟩
        · rw [rI_nk hji, f'.I 7 (by decide) (by decide) (by decide)]
          exact w1
        · exact y1.trans w2
        · exact y2.trans (w3 e)
        · exact y3.trans (w4 e)
  obtain ⟨g, r, fg, ek, lx⟩ := lp
  have lg := fg.lay (f7.lay hl)
  have fa : FR g (hI g 4 9 m1) [4] [4] [] [] := FR.hI (by decide) (by decide) (by decide)
  obtain ⟨h', r2, f2, lc⟩ := x_adv1 (h := hI g 4 9 m1) lg (lx_fr fa (by decide) (by decide) (by decide) (by decide) lx) (Nat.zero_le m) m1 (Or.inl ⟨rfl, rfl⟩) rfl ((ek 12 (by decide)).trans rfl) ((ek 13 (by decide)).trans rfl) ((ek 6 (by decide)).trans rfl)
  have l7 : LAY h7 := f7.lay hl
  have r' : f_X4_open_l29 4 (nI 1) (nI 0) (hI (hI (hI (hI (hI h 4 7 (nI n)) 4 6 (nI 0)) 4 8 (nI 0)) 4 12 (nI 0)) 4 13 m1) = some g := r
  exact ⟨h', m, by simp (disch := first | assumption | omega | decide | ((repeat first | apply lyI | apply lyJ | apply lywI | apply lywJ | apply csI | apply csJ | apply cswI | apply cswJ); assumption)) only [f_X4_open, f_X4_open_j82, SX, LI, ↓li_m1, nI_add, pk_mul, nn_sub, nn_m1, nn_div, nn_rem, nn_nz, nn_mod, nJ_l, lN_add, lN_mul, nn_tb1, nI_bt, nn_and, nn_or, nn_xor, nn_shr, nn_1shl, nn_31, il_p, il_n, it_p, it_n, ie_p, ie_n, ie_b, ie_b1, ie_m, ie_mm, it_m, it_m0, il_m0, bI_rZ, Option.bind_some, bd2_some, Nat.add_zero, Nat.zero_add, if_true, if_false, Bool.false_eq_true, eq_self, hI_R, hJ_R, ng_t, ng_e, r', r2], ((f7.tr fg).tr (fa.mono (by decide) (by decide) (by decide) (by decide))).tr (f2.mono (by decide) (by decide) (by decide) (by decide)), lc⟩
