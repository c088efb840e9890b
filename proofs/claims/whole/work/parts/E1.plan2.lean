/-! ===== plans: the class reads a part ===== -/
/-- row N closes the when of row r -/
def clK (K : Nat → Nat → Nat) (N r : Nat) : Nat → Nat → Nat := fun x j => if x = r ∧ j = 3 then N else rwK K N 26 0 0 0 x j
def smS (T : Nat → Nat) (n j : Nat) (K : Nat → Nat → Nat) (dp : Nat) (op : Nat → Nat) : (Nat × Nat) ⊕ (Nat × (Nat → Nat → Nat) × Nat × (Nat → Nat)) := if tcI T n j = 3 then .inr (j + 1, K, dp, op) else .inl (fkN T n j 2, frI T n j)
def adO (op : Nat → Nat) (dp N : Nat) : Nat → Nat := fun e => if e = dp then N else op e
/-- what a part is read as: a fault and its place, or what comes behind it -/
def pStep (T : Nat → Nat) (n i : Nat) (C : Nat → Nat) (V : Nat → List Nat) (K : Nat → Nat → Nat) (N dp : Nat) (op : Nat → Nat) : (Nat × Nat) ⊕ (Nat × (Nat → Nat → Nat) × Nat × (Nat → Nat)) :=
  if tcI T n i = 34 then (if dp = 0 then .inl (2, frI T n i) else smS T n (i + 1) (clK K N (op (dp - 1))) (dp - 1) op)
  else if tcI T n i < 25 ∨ 29 < tcI T n i then .inl (fkN T n i 2, frI T n i)
  else if 30 ≤ sgK K N then .inl (6, frI T n i)
  else if tcI T n i = 25 then (match nmO T n (i + 1) C V 3 with
    | none => .inl (nmF T n (i + 1), frI T n (i + 1))
    | some a => match nmO T n (i + 2) C V 2 with
      | none => .inl (nmF T n (i + 2), frI T n (i + 2))
      | some b => smS T n (i + 3) (rwK K N 17 a b 0) dp op)
  else if tcI T n i = 26 then (match nmO T n (i + 1) C V 3 with
    | none => .inl (nmF T n (i + 1), frI T n (i + 1))
    | some a => smS T n (i + 2) (rwK K N 18 a 0 0) dp op)
  else if tcI T n i = 27 then smS T n (i + 1) (rwK K N 19 0 0 0) dp op
  else if tcI T n i = 28 then (match nmO T n (i + 1) C V 2 with
    | none => .inl (nmF T n (i + 1), frI T n (i + 1))
    | some b => smS T n (i + 2) (rwK K N 20 0 b 0) dp op)
  else if 3 ≤ dp then .inl (7, frI T n i)
  else if tcI T n (i + 1) < 30 ∨ 33 < tcI T n (i + 1) then .inl (fkN T n (i + 1) 2, frI T n (i + 1))
  else if tcI T n (i + 1) = 33 then (if tcI T n (i + 2) = 2 ∧ 0 ≤ nuI T n (i + 2) ∧ nuI T n (i + 2) ≤ 256 then smS T n (i + 3) (rwK K N 2125 (nuI T n (i + 2)) 0 0) (dp + 1) (adO op dp N) else .inl (fkN T n (i + 2) (if tcI T n (i + 2) = 2 then 4 else 2), frI T n (i + 2)))
  else (match nmO T n (i + 2) C V 2 with
    | none => .inl (nmF T n (i + 2), frI T n (i + 2))
    | some b => smS T n (i + 3) (rwK K N (2092 + tcI T n (i + 1)) b 0 0) (dp + 1) (adO op dp N))
/-- the class came to that -/
def OCp (h0 : aH) (p c : Nat) (T : Nat → Nat) (n m : Nat) (C : Nat → Nat) (V : Nat → List Nat) (N : Nat) (x : Option (Int32 × aH)) (o : (Nat × Nat) ⊕ (Nat × (Nat → Nat → Nat) × Nat × (Nat → Nat))) : Prop := match o with
  | .inl (f, q) => ∃ h', x = some (nI 0, h') ∧ FR h0 h' [4, p, p + 1, p + 2, p + 3, p + 4, p + 5] [4] [] [] ∧ FL h' f q
  | .inr (i', K', dp', op') => ∃ h', x = some (nI 1, h') ∧ MCp h0 h' p c T n m i' C V K' (N + 1) dp' op'
theorem rz0 : rZ (nI 0) = some (nI 0) := rfl
theorem rz1 : rZ (nI 1) = some (nI 1) := rfl
/-- the cells of plan and lexer alone were written: the case stays -/
theorem cp_st14 {h h' : aH} {c : Nat} {C : Nat → Nat} {V : Nat → List Nat} (hf : FR h h' [4, 14, 15, 16, 17, 18, 19] [4] [] []) (hs : CS h c) (nc : NCl h c C V) : CS h' c ∧ NCl h' c C V := by
  have c0 := hs.1
  refine ⟨cs_fr hf hs, nc_fr hf hs (by simp; omega) (by simp; omega) (by simp; omega) (by simp; omega) nc⟩
/-- one step more: its row is written, the sign behind it taken -/
theorem x_semi14 {h0 h : aH} {c : Nat} {T : Nat → Nat} {n m j : Nat} {C : Nat → Nat} {V : Nat → List Nat} {N : Nat} (hf : FR h0 h [4, 14, 15, 16, 17, 18, 19] [4] [] []) (lc : LC h T n m j) (hs : CS h c) (nc : NCl h c C V) {K' : Nat → Nat → Nat} {dp' : Nat} {op' : Nat → Nat} (s30 : sgK K' (N + 1) ≤ 30) (pc : PCp (hI h 14 6 (nI (sgK K' (N + 1)))) 14 K' (N + 1)) (po : POp h 14 K' dp' op') (e6 : h.2.1 14 6 = nI (sgK K' (N + 1) - 1)) (s1 : 1 ≤ sgK K' (N + 1)) : OCp h0 14 c T n m C V N (f_X8_readStep_j103 h 14 4) (smS T n j K' dp' op') := by
  have hl := lc.1
  have f1 : FR h (hI h 14 6 (nI (sgK K' (N + 1)))) [4, 14, 15, 16, 17, 18, 19] [4] [] [] := FR.hI (by decide) (by decide) (by decide)
  have f2 : FR h (hI h 14 6 (nI (sgK K' (N + 1)))) [14] [] [] [] := FR.hI (by decide) (by decide) (by decide)
  have lc1 := lc_fr f2 (by decide) (by decide) lc
  have es : sgK K' (N + 1) - 1 + 1 = sgK K' (N + 1) := by omega
  obtain ⟨hs1, nc1⟩ := cp_st14 f1 hs nc
  rcases x_take (w := 3) lc1 (by decide) (by decide) with ⟨t, h', r, f, l⟩ | ⟨t, h', r, f, l⟩
  · have eo : smS T n j K' dp' op' = .inr (j + 1, K', dp', op') := if_pos t
    rw [eo]
    have f' : FR (hI h 14 6 (nI (sgK K' (N + 1)))) h' [4, 14, 15, 16, 17, 18, 19] [4] [] [] := f.mono (by decide) (by decide) (by decide) (by decide)
    obtain ⟨hs2, nc2⟩ := cp_st14 f' hs1 nc1
    refine ⟨h', by simp (disch := first | assumption | omega | decide | ((repeat first | apply lyI | apply lyJ | apply lywI | apply lywJ | apply csI | apply csJ | apply cswI | apply cswJ); assumption)) only [f_X8_readStep_j103, SP14, SX, LI, ↓li_m1, nI_add, pk_mul, nn_sub, nn_m1, nn_div, nn_rem, nn_nz, nn_mod, nJ_l, lN_add, lN_mul, nn_tb1, nI_bt, nn_and, nn_or, nn_xor, nn_shr, nn_1shl, nn_31, il_p, il_n, it_p, it_n, ie_p, ie_n, ie_b, ie_b1, ie_m, ie_mm, it_m, it_m0, il_m0, bI_rZ, Option.bind_some, bd2_some, Nat.add_zero, Nat.zero_add, if_true, if_false, Bool.false_eq_true, eq_self, hI_R, hJ_R, ng_t, ng_e, e6, es, r, rz1], (hf.tr f1).tr f', l, hs2, nc2, ?_, ?_⟩
    · unfold PCp
      rw [f.I 14 (by decide) (by decide) (by decide), f.I (14 + 1) (by decide) (by decide) (by decide), f.I (14 + 2) (by decide) (by decide) (by decide), f.I (14 + 3) (by decide) (by decide) (by decide), f.I (14 + 4) (by decide) (by decide) (by decide)]
      exact pc
    · unfold POp
      rw [f.I 14 (by decide) (by decide) (by decide), f.I (14 + 5) (by decide) (by decide) (by decide)]
      refine ⟨(rI_nk (by decide)).trans po.1, (rI_nk (by decide)).trans po.2.1, po.2.2⟩
  · have eo : smS T n j K' dp' op' = .inl (fkN T n j 2, frI T n j) := if_neg t
    rw [eo]
    exact ⟨h', by simp (disch := first | assumption | omega | decide | ((repeat first | apply lyI | apply lyJ | apply lywI | apply lywJ | apply csI | apply csJ | apply cswI | apply cswJ); assumption)) only [f_X8_readStep_j103, SP14, SX, LI, ↓li_m1, nI_add, pk_mul, nn_sub, nn_m1, nn_div, nn_rem, nn_nz, nn_mod, nJ_l, lN_add, lN_mul, nn_tb1, nI_bt, nn_and, nn_or, nn_xor, nn_shr, nn_1shl, nn_31, il_p, il_n, it_p, it_n, ie_p, ie_n, ie_b, ie_b1, ie_m, ie_mm, it_m, it_m0, il_m0, bI_rZ, Option.bind_some, bd2_some, Nat.add_zero, Nat.zero_add, if_true, if_false, Bool.false_eq_true, eq_self, hI_R, hJ_R, ng_t, ng_e, e6, es, r, rz0], (hf.tr f1).tr (f.mono (by decide) (by decide) (by decide) (by decide)), l⟩
/-- the cells of plan and lexer alone were written: the case stays -/
theorem cp_st20 {h h' : aH} {c : Nat} {C : Nat → Nat} {V : Nat → List Nat} (hf : FR h h' [4, 20, 21, 22, 23, 24, 25] [4] [] []) (hs : CS h c) (nc : NCl h c C V) : CS h' c ∧ NCl h' c C V := by
  have c0 := hs.1
  refine ⟨cs_fr hf hs, nc_fr hf hs (by simp; omega) (by simp; omega) (by simp; omega) (by simp; omega) nc⟩
/-- one step more: its row is written, the sign behind it taken -/
theorem x_semi20 {h0 h : aH} {c : Nat} {T : Nat → Nat} {n m j : Nat} {C : Nat → Nat} {V : Nat → List Nat} {N : Nat} (hf : FR h0 h [4, 20, 21, 22, 23, 24, 25] [4] [] []) (lc : LC h T n m j) (hs : CS h c) (nc : NCl h c C V) {K' : Nat → Nat → Nat} {dp' : Nat} {op' : Nat → Nat} (s30 : sgK K' (N + 1) ≤ 30) (pc : PCp (hI h 20 6 (nI (sgK K' (N + 1)))) 20 K' (N + 1)) (po : POp h 20 K' dp' op') (e6 : h.2.1 20 6 = nI (sgK K' (N + 1) - 1)) (s1 : 1 ≤ sgK K' (N + 1)) : OCp h0 20 c T n m C V N (f_X8_readStep_j103 h 20 4) (smS T n j K' dp' op') := by
  have hl := lc.1
  have f1 : FR h (hI h 20 6 (nI (sgK K' (N + 1)))) [4, 20, 21, 22, 23, 24, 25] [4] [] [] := FR.hI (by decide) (by decide) (by decide)
  have f2 : FR h (hI h 20 6 (nI (sgK K' (N + 1)))) [20] [] [] [] := FR.hI (by decide) (by decide) (by decide)
  have lc1 := lc_fr f2 (by decide) (by decide) lc
  have es : sgK K' (N + 1) - 1 + 1 = sgK K' (N + 1) := by omega
  obtain ⟨hs1, nc1⟩ := cp_st20 f1 hs nc
  rcases x_take (w := 3) lc1 (by decide) (by decide) with ⟨t, h', r, f, l⟩ | ⟨t, h', r, f, l⟩
  · have eo : smS T n j K' dp' op' = .inr (j + 1, K', dp', op') := if_pos t
    rw [eo]
    have f' : FR (hI h 20 6 (nI (sgK K' (N + 1)))) h' [4, 20, 21, 22, 23, 24, 25] [4] [] [] := f.mono (by decide) (by decide) (by decide) (by decide)
    obtain ⟨hs2, nc2⟩ := cp_st20 f' hs1 nc1
    refine ⟨h', by simp (disch := first | assumption | omega | decide | ((repeat first | apply lyI | apply lyJ | apply lywI | apply lywJ | apply csI | apply csJ | apply cswI | apply cswJ); assumption)) only [f_X8_readStep_j103, SP20, SX, LI, ↓li_m1, nI_add, pk_mul, nn_sub, nn_m1, nn_div, nn_rem, nn_nz, nn_mod, nJ_l, lN_add, lN_mul, nn_tb1, nI_bt, nn_and, nn_or, nn_xor, nn_shr, nn_1shl, nn_31, il_p, il_n, it_p, it_n, ie_p, ie_n, ie_b, ie_b1, ie_m, ie_mm, it_m, it_m0, il_m0, bI_rZ, Option.bind_some, bd2_some, Nat.add_zero, Nat.zero_add, if_true, if_false, Bool.false_eq_true, eq_self, hI_R, hJ_R, ng_t, ng_e, e6, es, r, rz1], (hf.tr f1).tr f', l, hs2, nc2, ?_, ?_⟩
    · unfold PCp
      rw [f.I 20 (by decide) (by decide) (by decide), f.I (20 + 1) (by decide) (by decide) (by decide), f.I (20 + 2) (by decide) (by decide) (by decide), f.I (20 + 3) (by decide) (by decide) (by decide), f.I (20 + 4) (by decide) (by decide) (by decide)]
      exact pc
    · unfold POp
      rw [f.I 20 (by decide) (by decide) (by decide), f.I (20 + 5) (by decide) (by decide) (by decide)]
      refine ⟨(rI_nk (by decide)).trans po.1, (rI_nk (by decide)).trans po.2.1, po.2.2⟩
  · have eo : smS T n j K' dp' op' = .inl (fkN T n j 2, frI T n j) := if_neg t
    rw [eo]
    exact ⟨h', by simp (disch := first | assumption | omega | decide | ((repeat first | apply lyI | apply lyJ | apply lywI | apply lywJ | apply csI | apply csJ | apply cswI | apply cswJ); assumption)) only [f_X8_readStep_j103, SP20, SX, LI, ↓li_m1, nI_add, pk_mul, nn_sub, nn_m1, nn_div, nn_rem, nn_nz, nn_mod, nJ_l, lN_add, lN_mul, nn_tb1, nI_bt, nn_and, nn_or, nn_xor, nn_shr, nn_1shl, nn_31, il_p, il_n, it_p, it_n, ie_p, ie_n, ie_b, ie_b1, ie_m, ie_mm, it_m, it_m0, il_m0, bI_rZ, Option.bind_some, bd2_some, Nat.add_zero, Nat.zero_add, if_true, if_false, Bool.false_eq_true, eq_self, hI_R, hJ_R, ng_t, ng_e, e6, es, r, rz0], (hf.tr f1).tr (f.mono (by decide) (by decide) (by decide) (by decide)), l⟩
