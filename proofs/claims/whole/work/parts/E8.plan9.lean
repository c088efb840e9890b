/-! ===== plans: what was read is sound; the loops ===== -/
theorem pv_row {C : Nat → Nat} {K : Nat → Nat → Nat} {N dp : Nat} {op : Nat → Nat} (pv : PVp C K N dp op) (s30 : sgK K N < 30) {a b c : Nat} (hk : (a = 17 ∧ b < C 3 ∧ c < C 2) ∨ (a = 18 ∧ b < C 3) ∨ a = 19 ∨ (a = 20 ∧ c < C 2)) : PVp C (rwK K N a b c 0) (N + 1) dp op := by
  obtain ⟨p1, p2, p3, p4, p5⟩ := pv
  obtain ⟨z0, z1, z2, z3⟩ := rw_N (K := K) (N := N) (a := a) (b := b) (c := c) (d := 0)
  have e1 := rw_sg1 (K := K) (N := N) (a := a) (b := b) (c := c) (d := 0) (by omega)
  refine ⟨by omega, p2, by omega, fun r hr hcl => ?_, fun e he => ?_⟩
  · rcases Nat.lt_or_ge r N with u | u
    · rw [rw_cl (by omega)] at hcl
      rw [rw_lt (by omega)]
      rcases p4 r u hcl with h | h | h | h | ⟨x, x4, h1, h2, h3, h4⟩
      · exact Or.inl h
      · exact Or.inr (Or.inl h)
      · exact Or.inr (Or.inr (Or.inl h))
      · exact Or.inr (Or.inr (Or.inr (Or.inl h)))
      · refine Or.inr (Or.inr (Or.inr (Or.inr ⟨x, x4, h1, h2, h3, ?_⟩)))
        rcases h4 with h4 | ⟨h4, h5, h6⟩
        · exact Or.inl h4
        · exact Or.inr ⟨h4, by omega, by rw [rw_cl (by omega)]; exact h6⟩
    · obtain rfl : r = N := by omega
      rw [z0, z1, z2, z3]
      rcases hk with h | h | h | h
      · exact Or.inl h
      · exact Or.inr (Or.inl h)
      · exact Or.inr (Or.inr (Or.inl h))
      · exact Or.inr (Or.inr (Or.inr (Or.inl h)))
  · obtain ⟨o1, o2, o3, o4⟩ := p5 e he
    refine ⟨by omega, ?_, ?_, o4⟩
    · rw [rw_cl (by omega)]
      exact o2
    · rw [rw_lt (by omega)]
      exact o3
theorem pv_when {C : Nat → Nat} {K : Nat → Nat → Nat} {N dp : Nat} {op : Nat → Nat} (pv : PVp C K N dp op) (s30 : sgK K N < 30) (d3 : dp < 3) {x b : Nat} (x4 : x < 4) (h1 : x < 3 → b < C 2) (h2 : b ≤ 256) : PVp C (rwK K N (2122 + x) b 0 0) (N + 1) (dp + 1) (adO op dp N) := by
  obtain ⟨p1, p2, p3, p4, p5⟩ := pv
  obtain ⟨z0, z1, z2, z3⟩ := rw_N (K := K) (N := N) (a := 2122 + x) (b := b) (c := 0) (d := 0)
  have e1 := rw_sg1 (K := K) (N := N) (a := 2122 + x) (b := b) (c := 0) (d := 0) (by omega)
  refine ⟨by omega, by omega, by omega, fun r hr hcl => ?_, fun e he => ?_⟩
  · rcases Nat.lt_or_ge r N with u | u
    · rw [rw_cl (by omega)] at hcl
      rw [rw_lt (by omega)]
      rcases p4 r u hcl with h | h | h | h | ⟨x, x4, h1, h2, h3, h4⟩
      · exact Or.inl h
      · exact Or.inr (Or.inl h)
      · exact Or.inr (Or.inr (Or.inl h))
      · exact Or.inr (Or.inr (Or.inr (Or.inl h)))
      · refine Or.inr (Or.inr (Or.inr (Or.inr ⟨x, x4, h1, h2, h3, ?_⟩)))
        rcases h4 with ⟨e, e1, e2, e3⟩ | ⟨h4, h5, h6⟩
        · exact Or.inl ⟨e, by omega, by rw [show adO op dp N e = op e from if_neg (by omega)]; exact e2, e3⟩
        · exact Or.inr ⟨h4, by omega, by rw [rw_cl (by omega)]; exact h6⟩
    · obtain rfl : r = N := by omega
      rw [z0, z1, z2, z3]
      exact Or.inr (Or.inr (Or.inr (Or.inr ⟨x, x4, rfl, h1, h2, Or.inl ⟨dp, by omega, if_pos rfl, rfl⟩⟩)))
  · by_cases hed : e = dp
    · subst hed
      rw [show adO op e N e = N from if_pos rfl, rw_clN (by omega), z0]
      refine ⟨by omega, rfl, by omega, fun e' he' => ?_⟩
      rw [show adO op e N e' = op e' from if_neg (by omega)]
      exact (p5 e' he').1
    · obtain ⟨o1, o2, o3, o4⟩ := p5 e (by omega)
      rw [show adO op dp N e = op e from if_neg hed]
      refine ⟨by omega, ?_, ?_, fun e' he' => ?_⟩
      · rw [rw_cl (by omega)]
        exact o2
      · rw [rw_lt (by omega)]
        exact o3
      · rw [show adO op dp N e' = op e' from if_neg (by omega)]
        exact o4 e' he'
theorem pv_end {C : Nat → Nat} {K : Nat → Nat → Nat} {N dp : Nat} {op : Nat → Nat} (pv : PVp C K N dp op) (d0 : dp ≠ 0) : PVp C (clK K N (op (dp - 1))) (N + 1) (dp - 1) op := by
  obtain ⟨p1, p2, p3, p4, p5⟩ := pv
  obtain ⟨o1, o2, o3, o4⟩ := p5 (dp - 1) (by omega)
  have e1 := cl_sg1 (K := K) o1
  refine ⟨by omega, by omega, by omega, fun r hr hcl => ?_, fun e he => ?_⟩
  · rcases Nat.lt_or_ge r N with u | u
    · have rN : r ≠ N := by omega
      rw [cl_cl rN] at hcl
      obtain ⟨z0, z1, z2⟩ := cl_0 (K := K) (N := N) (r := op (dp - 1)) rN
      rw [z0, z1, z2]
      rcases p4 r u hcl with h | h | h | h | ⟨x, x4, h1, h2, h3, h4⟩
      · exact Or.inl h
      · exact Or.inr (Or.inl h)
      · exact Or.inr (Or.inr (Or.inl h))
      · exact Or.inr (Or.inr (Or.inr (Or.inl h)))
      · refine Or.inr (Or.inr (Or.inr (Or.inr ⟨x, x4, h1, h2, h3, ?_⟩)))
        by_cases hr0 : r = op (dp - 1)
        · subst hr0
          rw [cl_3]
          exact Or.inr ⟨u, by omega, cl_clN o1⟩
        · rw [cl_row rN hr0]
          rcases h4 with ⟨e, e1, e2, e3⟩ | ⟨h4, h5, h6⟩
          · have : e ≠ dp - 1 := fun z => hr0 (by rw [← e2, z])
            exact Or.inl ⟨e, by omega, e2, e3⟩
          · exact Or.inr ⟨h4, by omega, by rw [cl_cl (by omega)]; exact h6⟩
    · obtain rfl : r = N := by omega
      rw [cl_clN o1] at hcl
      cases hcl
  · obtain ⟨q1, q2, q3, q4⟩ := p5 e (by omega)
    refine ⟨by omega, ?_, ?_, q4⟩
    · rw [cl_cl (by omega)]
      exact q2
    · rw [(cl_0 (by omega)).1]
      exact q3
theorem sm_i {T : Nat → Nat} {n j : Nat} {K : Nat → Nat → Nat} {dp : Nat} {op : Nat → Nat} {i' : Nat} {K' : Nat → Nat → Nat} {dp' : Nat} {op' : Nat → Nat} (h : smS T n j K dp op = .inr (i', K', dp', op')) : i' = j + 1 ∧ K' = K ∧ dp' = dp ∧ op' = op := by
  unfold smS at h
  by_cases t : tcI T n j = 3
  · rw [if_pos t] at h
    cases h
    exact ⟨rfl, rfl, rfl, rfl⟩
  · rw [if_neg t] at h
    cases h
theorem ps_ok {T : Nat → Nat} {n i : Nat} {C : Nat → Nat} {V : Nat → List Nat} {K : Nat → Nat → Nat} {N dp : Nat} {op : Nat → Nat} (pv : PVp C K N dp op) (nv : NV C V) {i' : Nat} {K' : Nat → Nat → Nat} {dp' : Nat} {op' : Nat → Nat} (h : pStep T n i C V K N dp op = .inr (i', K', dp', op')) : i < i' ∧ PVp C K' (N + 1) dp' op' := by
  have tl := tc_le (T := T) (n := n) (i := i)
  have hd3 := pv.2.1
  obtain ⟨b0, b1, b2, b3⟩ := nv_le4 nv
  unfold pStep at h
  by_cases t : tcI T n i = 34
  · rw [if_pos t] at h
    by_cases hz : dp = 0
    · rw [if_pos hz] at h
      cases h
    · rw [if_neg hz] at h
      obtain ⟨rfl, rfl, rfl, rfl⟩ := sm_i h
      exact ⟨by omega, pv_end pv hz⟩
  rw [if_neg t] at h
  by_cases hx : tcI T n i < 25 ∨ 29 < tcI T n i
  · rw [if_pos hx] at h
    cases h
  rw [if_neg hx] at h
  by_cases h30 : 30 ≤ sgK K N
  · rw [if_pos h30] at h
    cases h
  rw [if_neg h30] at h
  have s30 : sgK K N < 30 := by omega
  by_cases t25 : tcI T n i = 25
  · rw [if_pos t25] at h
    cases ha : nmO T n (i + 1) C V 3 with
    | none => rw [ha] at h; cases h
    | some a =>
      rw [ha] at h
      cases hb : nmO T n (i + 2) C V 2 with
      | none => rw [hb] at h; cases h
      | some b =>
        rw [hb] at h
        obtain ⟨rfl, rfl, rfl, rfl⟩ := sm_i h
        exact ⟨by omega, pv_row pv s30 (Or.inl ⟨rfl, (nm_6 ha).2, (nm_6 hb).2⟩)⟩
  rw [if_neg t25] at h
  by_cases t26 : tcI T n i = 26
  · rw [if_pos t26] at h
    cases ha : nmO T n (i + 1) C V 3 with
    | none => rw [ha] at h; cases h
    | some a =>
      rw [ha] at h
      obtain ⟨rfl, rfl, rfl, rfl⟩ := sm_i h
      exact ⟨by omega, pv_row pv s30 (Or.inr (Or.inl ⟨rfl, (nm_6 ha).2⟩))⟩
  rw [if_neg t26] at h
  by_cases t27 : tcI T n i = 27
  · rw [if_pos t27] at h
    obtain ⟨rfl, rfl, rfl, rfl⟩ := sm_i h
    exact ⟨by omega, pv_row pv s30 (Or.inr (Or.inr (Or.inl rfl)))⟩
  rw [if_neg t27] at h
  by_cases t28 : tcI T n i = 28
  · rw [if_pos t28] at h
    cases ha : nmO T n (i + 1) C V 2 with
    | none => rw [ha] at h; cases h
    | some a =>
      rw [ha] at h
      obtain ⟨rfl, rfl, rfl, rfl⟩ := sm_i h
      exact ⟨by omega, pv_row pv s30 (Or.inr (Or.inr (Or.inr ⟨rfl, (nm_6 ha).2⟩)))⟩
  rw [if_neg t28] at h
  by_cases hd : 3 ≤ dp
  · rw [if_pos hd] at h
    cases h
  rw [if_neg hd] at h
  by_cases hy : tcI T n (i + 1) < 30 ∨ 33 < tcI T n (i + 1)
  · rw [if_pos hy] at h
    cases h
  rw [if_neg hy] at h
  by_cases t33 : tcI T n (i + 1) = 33
  · rw [if_pos t33] at h
    by_cases hq : tcI T n (i + 2) = 2 ∧ 0 ≤ nuI T n (i + 2) ∧ nuI T n (i + 2) ≤ 256
    · rw [if_pos hq] at h
      obtain ⟨rfl, rfl, rfl, rfl⟩ := sm_i h
      exact ⟨by omega, pv_when (x := 3) pv s30 (by omega) (by decide) (fun e => absurd e (by decide)) hq.2.2⟩
    · rw [if_neg hq] at h
      cases h
  rw [if_neg t33] at h
  cases ha : nmO T n (i + 2) C V 2 with
  | none => rw [ha] at h; cases h
  | some b =>
    rw [ha] at h
    obtain ⟨rfl, rfl, rfl, rfl⟩ := sm_i h
    have bb := (nm_6 ha).2
    refine ⟨by omega, ?_⟩
    have := pv_when (x := tcI T n (i + 1) - 30) (b := b) pv s30 (by omega) (by omega) (fun _ => bb) (by omega)
    rw [show 2122 + (tcI T n (i + 1) - 30) = 2092 + tcI T n (i + 1) by omega] at this
    exact this
/-- how the text of a plan ends: with a fault, or at its end -/
def ECp (h0 : aH) (p c : Nat) (T : Nat → Nat) (n m : Nat) (C : Nat → Nat) (V : Nat → List Nat) (e : aH ⊕ aH) (o : (Nat × Nat) ⊕ (Nat × (Nat → Nat → Nat) × Nat × Nat × (Nat → Nat))) : Prop := match o with
  | .inl (f, q) => f ≠ 0 ∧ f < 100 ∧ ∃ h', e = .inl h' ∧ FR h0 h' [4, p, p + 1, p + 2, p + 3, p + 4, p + 5] [4] [] [] ∧ FL h' f q
  | .inr (i, K, N, dp, op) => ∃ h', e = .inr h' ∧ MCp h0 h' p c T n m i C V K N dp op ∧ PVp C K N dp op ∧ tcI T n i = 0
def ERp (k0 k : aH) (T : Nat → Nat) (n : Nat) (C : Nat → Nat) (V : Nat → List Nat) (o : (Nat × Nat) ⊕ (Nat × (Nat → Nat → Nat) × Nat × Nat × (Nat → Nat))) : Prop := match o with
  | .inl (f, q) => (FR k0 k [114, 125] [] [] G30 ∧ ∀ x, x < 1607 → k.2.1 114 x = k0.2.1 114 x) ∧ RLx k f q
  | .inr (i, K, N, dp, op) => MRp k0 k T n i C V K N dp op
theorem fk_b {T : Nat → Nat} {n i k : Nat} (h : k ≠ 0) (h2 : k < 100) : fkN T n i k ≠ 0 ∧ fkN T n i k < 100 := by
  unfold fkN
  split
  · decide
  · exact ⟨h, h2⟩
theorem nf_b {T : Nat → Nat} {n i : Nat} : nmF T n i ≠ 0 ∧ nmF T n i < 100 := by
  unfold nmF
  split
  · exact fk_b (by decide) (by decide)
  · exact fk_b (by decide) (by decide)
theorem sm_f {T : Nat → Nat} {n j : Nat} {K : Nat → Nat → Nat} {dp : Nat} {op : Nat → Nat} {f q : Nat} (h : smS T n j K dp op = .inl (f, q)) : f ≠ 0 ∧ f < 100 := by
  unfold smS at h
  by_cases t : tcI T n j = 3
  · rw [if_pos t] at h
    cases h
  · rw [if_neg t] at h
    cases h
    exact fk_b (by decide) (by decide)
theorem ps_f {T : Nat → Nat} {n i : Nat} {C : Nat → Nat} {V : Nat → List Nat} {K : Nat → Nat → Nat} {N dp : Nat} {op : Nat → Nat} {f q : Nat} (h : pStep T n i C V K N dp op = .inl (f, q)) : f ≠ 0 ∧ f < 100 := by
  unfold pStep at h
  by_cases t : tcI T n i = 34
  · rw [if_pos t] at h
    by_cases hz : dp = 0
    · rw [if_pos hz] at h
      cases h
      decide
    · rw [if_neg hz] at h
      exact sm_f h
  rw [if_neg t] at h
  by_cases hx : tcI T n i < 25 ∨ 29 < tcI T n i
  · rw [if_pos hx] at h
    cases h
    exact fk_b (by decide) (by decide)
  rw [if_neg hx] at h
  by_cases h30 : 30 ≤ sgK K N
  · rw [if_pos h30] at h
    cases h
    decide
  rw [if_neg h30] at h
  by_cases t25 : tcI T n i = 25
  · rw [if_pos t25] at h
    cases ha : nmO T n (i + 1) C V 3 with
    | none =>
      rw [ha] at h
      cases h
      exact nf_b
    | some a =>
      rw [ha] at h
      cases hb : nmO T n (i + 2) C V 2 with
      | none =>
        rw [hb] at h
        cases h
        exact nf_b
      | some b =>
        rw [hb] at h
        exact sm_f h
  rw [if_neg t25] at h
  by_cases t26 : tcI T n i = 26
  · rw [if_pos t26] at h
    cases ha : nmO T n (i + 1) C V 3 with
    | none =>
      rw [ha] at h
      cases h
      exact nf_b
    | some a =>
      rw [ha] at h
      exact sm_f h
  rw [if_neg t26] at h
  by_cases t27 : tcI T n i = 27
  · rw [if_pos t27] at h
    exact sm_f h
  rw [if_neg t27] at h
  by_cases t28 : tcI T n i = 28
  · rw [if_pos t28] at h
    cases ha : nmO T n (i + 1) C V 2 with
    | none =>
      rw [ha] at h
      cases h
      exact nf_b
    | some a =>
      rw [ha] at h
      exact sm_f h
  rw [if_neg t28] at h
  by_cases hd : 3 ≤ dp
  · rw [if_pos hd] at h
    cases h
    decide
  rw [if_neg hd] at h
  by_cases hy : tcI T n (i + 1) < 30 ∨ 33 < tcI T n (i + 1)
  · rw [if_pos hy] at h
    cases h
    exact fk_b (by decide) (by decide)
  rw [if_neg hy] at h
  by_cases t33 : tcI T n (i + 1) = 33
  · rw [if_pos t33] at h
    by_cases hq : tcI T n (i + 2) = 2 ∧ 0 ≤ nuI T n (i + 2) ∧ nuI T n (i + 2) ≤ 256
    · rw [if_pos hq] at h
      exact sm_f h
    · rw [if_neg hq] at h
      cases h
      exact fk_b (by split <;> decide) (by split <;> decide)
  rw [if_neg t33] at h
  cases ha : nmO T n (i + 2) C V 2 with
  | none =>
    rw [ha] at h
    cases h
    exact nf_b
  | some b =>
    rw [ha] at h
    exact sm_f h
theorem p_loop14 {h0 : aH} {c : Nat} {T : Nat → Nat} {n m : Nat} {C : Nat → Nat} {V : Nat → List Nat} (nv : NV C V) : ∀ (d i : Nat) (K : Nat → Nat → Nat) (N dp : Nat) (op : Nat → Nat) (h : aH) (j : Nat), m - i ≤ d → j ≤ i → MCp h0 h 14 c T n m i C V K N dp op → PVp C K N dp op → ∃ o, (∀ fuel, d < fuel → ∃ e, whileL fuel (fun q : Int32 × aH => f_X8_readSteps_b17 14 4 (c + 1) q.1 q.2) (nI j, h) = some e ∧ ECp h0 14 c T n m C V e o) ∧ ∀ k0 k fuel, d + 1 < fuel → MRp k0 k T n i C V K N dp op → ∃ k', whileL fuel (fun q : Int32 × aH => f_X12_plan_b38 113 q.1 q.2) (nI 1, k) = some k' ∧ ERp k0 k' T n C V o
  | d, i, K, N, dp, op, h, j, hd, hj, mc, pv => by
    have lc := mc.2.1
    have hl := lc.1
    have im := lc.2.2.2
    have m9 := lc.2.1.1.1
    have tl := tc_le (T := T) (n := n) (i := i)
    have e10 : h.2.1 4 10 = nI (tcI T n i) := lc.2.2.1.2.1
    by_cases t0 : tcI T n i = 0
    · refine ⟨.inr (i, K, N, dp, op), fun fuel hf => ?_, fun k0 k fuel hf mr => ?_⟩
      · obtain ⟨fuel, rfl⟩ : ∃ f, fuel = f + 1 := ⟨fuel - 1, by omega⟩
        refine ⟨.inr h, ?_, h, rfl, mc, pv, t0⟩
        show (f_X8_readSteps_b17 14 4 (c + 1) (nI j) h).bind _ = _
        rw [t0] at e10
        have b : f_X8_readSteps_b17 14 4 (c + 1) (nI j) h = some (.inr (.inr h)) := by simp (disch := first | assumption | omega | decide | ((repeat first | apply lyI | apply lyJ | apply lywI | apply lywJ | apply csI | apply csJ | apply cswI | apply cswJ); assumption)) only [f_X8_readSteps_b17, SX, LI, ↓li_m1, nI_add, pk_mul, nn_sub, nn_m1, nn_div, nn_rem, nn_nz, nn_mod, nJ_l, lN_add, lN_mul, nn_tb1, nI_bt, nn_and, nn_or, nn_xor, nn_shr, nn_1shl, nn_31, il_p, il_n, it_p, it_n, ie_p, ie_n, ie_b, ie_b1, ie_m, ie_mm, it_m, it_m0, il_m0, bI_rZ, Option.bind_some, bd2_some, Nat.add_zero, Nat.zero_add, if_true, if_false, Bool.false_eq_true, eq_self, hI_R, hJ_R, ng_t, ng_e, e10]
        rw [b]
        rfl
      · obtain ⟨fuel, rfl⟩ : ∃ f, fuel = f + 1 := ⟨fuel - 1, by omega⟩
        refine ⟨k, ?_, mr⟩
        show (f_X12_plan_b38 113 (nI 1) k).bind _ = _
        have kl := mr.2.1.1
        have e13 : k.2.1 113 13 = nI 0 := by
          have := mr.2.1.2.1.2.2.2.1
          rw [t0] at this
          exact this
        have b : f_X12_plan_b38 113 (nI 1) k = some (.inr k) := by simp (disch := first | assumption | omega | decide | ((repeat first | apply lyI | apply lyJ | apply lywI | apply lywJ | apply csI | apply csJ | apply cswI | apply cswJ); assumption)) only [f_X12_plan_b38, SM, LI, ↓li_m1, nI_add, pk_mul, nn_sub, nn_m1, nn_div, nn_rem, nn_nz, nn_mod, nJ_l, lN_add, lN_mul, nn_tb1, nI_bt, nn_and, nn_or, nn_xor, nn_shr, nn_1shl, nn_31, il_p, il_n, it_p, it_n, ie_p, ie_n, ie_b, ie_b1, ie_m, ie_mm, it_m, it_m0, il_m0, bI_rZ, Option.bind_some, bd2_some, Nat.add_zero, Nat.zero_add, if_true, if_false, Bool.false_eq_true, eq_self, hI_R, hJ_R, ng_t, ng_e, e13]
        rw [b]
        rfl
    · have im' : i < m ∨ tcI T n i = 1 := by
        rcases Nat.lt_or_ge i m with u | u
        · exact Or.inl u
        · have := lc.2.1.1.2.2.1
          have : i = m := by omega
          subst this
          omega
      have rb : ∀ k0 k, MRp k0 k T n i C V K N dp op → ∀ r k', f_X12_step k 113 = some (r, k') → f_X12_plan_b38 113 (nI 1) k = some (.inl (r, k')) := fun k0 k mr r k' hr => by
        have kl := mr.2.1.1
        have e13 := mr.2.1.2.1.2.2.2.1
        have c0 : clN (tcI T n i) ≠ 0 ∧ clN (tcI T n i) < 5 := by
          unfold clN
          rw [if_neg t0]
          repeat' split
          all_goals decide
        obtain ⟨c1, c2⟩ := c0
        simp (disch := first | assumption | omega | decide | ((repeat first | apply lyI | apply lyJ | apply lywI | apply lywJ | apply csI | apply csJ | apply cswI | apply cswJ); assumption)) only [f_X12_plan_b38, SM, LI, ↓li_m1, nI_add, pk_mul, nn_sub, nn_m1, nn_div, nn_rem, nn_nz, nn_mod, nJ_l, lN_add, lN_mul, nn_tb1, nI_bt, nn_and, nn_or, nn_xor, nn_shr, nn_1shl, nn_31, il_p, il_n, it_p, it_n, ie_p, ie_n, ie_b, ie_b1, ie_m, ie_mm, it_m, it_m0, il_m0, bI_rZ, Option.bind_some, bd2_some, Nat.add_zero, Nat.zero_add, if_true, if_false, Bool.false_eq_true, eq_self, hI_R, hJ_R, ng_t, ng_e, e13, hr]
      have cb : ∀ r h', ((tcI T n i = 34 ∧ f_X8_readEnd h 14 4 = some (r, h')) ∨ (tcI T n i ≠ 34 ∧ f_X8_readStep h 14 4 (c + 1) = some (r, h'))) → f_X8_readSteps_b17 14 4 (c + 1) (nI j) h = if r = nI 0 then some (.inr (.inl h')) else some (.inl (nI (j + 1), h')) := fun r h' hr => by
        rcases hr with ⟨t, hr⟩ | ⟨t, hr⟩
        · rw [t] at e10
          simp (disch := first | assumption | omega | decide | ((repeat first | apply lyI | apply lyJ | apply lywI | apply lywJ | apply csI | apply csJ | apply cswI | apply cswJ); assumption)) only [f_X8_readSteps_b17, f_X8_readSteps_j62, SP14, SX, LI, ↓li_m1, nI_add, pk_mul, nn_sub, nn_m1, nn_div, nn_rem, nn_nz, nn_mod, nJ_l, lN_add, lN_mul, nn_tb1, nI_bt, nn_and, nn_or, nn_xor, nn_shr, nn_1shl, nn_31, il_p, il_n, it_p, it_n, ie_p, ie_n, ie_b, ie_b1, ie_m, ie_mm, it_m, it_m0, il_m0, bI_rZ, Option.bind_some, bd2_some, Nat.add_zero, Nat.zero_add, if_true, if_false, Bool.false_eq_true, eq_self, hI_R, hJ_R, ng_t, ng_e, e10, hr]
        · simp (disch := first | assumption | omega | decide | ((repeat first | apply lyI | apply lyJ | apply lywI | apply lywJ | apply csI | apply csJ | apply cswI | apply cswJ); assumption)) only [f_X8_readSteps_b17, f_X8_readSteps_j62, SP14, SX, LI, ↓li_m1, nI_add, pk_mul, nn_sub, nn_m1, nn_div, nn_rem, nn_nz, nn_mod, nJ_l, lN_add, lN_mul, nn_tb1, nI_bt, nn_and, nn_or, nn_xor, nn_shr, nn_1shl, nn_31, il_p, il_n, it_p, it_n, ie_p, ie_n, ie_b, ie_b1, ie_m, ie_mm, it_m, it_m0, il_m0, bI_rZ, Option.bind_some, bd2_some, Nat.add_zero, Nat.zero_add, if_true, if_false, Bool.false_eq_true, eq_self, hI_R, hJ_R, ng_t, ng_e, e10, hr]
      have oc : ∃ x, OCp h0 14 c T n m C V N x (pStep T n i C V K N dp op) ∧ ∀ r h', x = some (r, h') → ((tcI T n i = 34 ∧ f_X8_readEnd h 14 4 = some (r, h')) ∨ (tcI T n i ≠ 34 ∧ f_X8_readStep h 14 4 (c + 1) = some (r, h'))) := by
        by_cases t : tcI T n i = 34
        · exact ⟨_, x_end14 mc pv t, fun r h' e => Or.inl ⟨t, e⟩⟩
        · exact ⟨_, x_part14 mc pv nv t, fun r h' e => Or.inr ⟨t, e⟩⟩
      obtain ⟨x, oc, ox⟩ := oc
      cases hp : pStep T n i C V K N dp op with
      | inl fq =>
        obtain ⟨f, q⟩ := fq
        rw [hp] at oc
        obtain ⟨h', e1, f1, l1⟩ := oc
        obtain ⟨fb1, fb2⟩ := ps_f hp
        refine ⟨.inl (f, q), fun fuel hf => ?_, fun k0 k fuel hf mr => ?_⟩
        · obtain ⟨fuel, rfl⟩ : ∃ f, fuel = f + 1 := ⟨fuel - 1, by omega⟩
          refine ⟨.inl h', ?_, fb1, fb2, h', rfl, f1, l1⟩
          show (f_X8_readSteps_b17 14 4 (c + 1) (nI j) h).bind _ = _
          rw [cb _ _ (ox _ _ e1), if_pos rfl]
          rfl
        · obtain ⟨fuel, rfl⟩ : ∃ f, fuel = f + 1 + 1 := ⟨fuel - 2, by omega⟩
          have orp := r_part mr pv nv
          rw [hp] at orp
          obtain ⟨k', e2, f2, l2⟩ := orp
          refine ⟨k', ?_, f2, l2⟩
          show (f_X12_plan_b38 113 (nI 1) k).bind _ = _
          rw [rb k0 k mr _ _ e2]
          show whileL (fuel + 1) (fun q : Int32 × aH => f_X12_plan_b38 113 q.1 q.2) (nI 0, k') = _
          show (f_X12_plan_b38 113 (nI 0) k').bind _ = _
          have b : f_X12_plan_b38 113 (nI 0) k' = some (.inr k') := by simp (disch := first | assumption | omega | decide | ((repeat first | apply lyI | apply lyJ | apply lywI | apply lywJ | apply csI | apply csJ | apply cswI | apply cswJ); assumption)) only [f_X12_plan_b38, LI, ↓li_m1, nI_add, pk_mul, nn_sub, nn_m1, nn_div, nn_rem, nn_nz, nn_mod, nJ_l, lN_add, lN_mul, nn_tb1, nI_bt, nn_and, nn_or, nn_xor, nn_shr, nn_1shl, nn_31, il_p, il_n, it_p, it_n, ie_p, ie_n, ie_b, ie_b1, ie_m, ie_mm, it_m, it_m0, il_m0, bI_rZ, Option.bind_some, bd2_some, Nat.add_zero, Nat.zero_add, if_true, if_false, Bool.false_eq_true, eq_self, hI_R, hJ_R, ng_t, ng_e]
          rw [b]
          rfl
      | inr s =>
        obtain ⟨i', K', dp', op'⟩ := s
        rw [hp] at oc
        obtain ⟨h', e1, mc'⟩ := oc
        obtain ⟨ii, pv'⟩ := ps_ok pv nv hp
        have im2 := mc'.2.1.2.2.2
        obtain ⟨d', rfl⟩ : ∃ d', d = d' + 1 := ⟨d - 1, by omega⟩
        obtain ⟨o, o1, o2⟩ := p_loop14 nv d' i' K' (N + 1) dp' op' h' (j + 1) (by omega) (by omega) mc' pv'
        refine ⟨o, fun fuel hf => ?_, fun k0 k fuel hf mr => ?_⟩
        · obtain ⟨fuel, rfl⟩ : ∃ f, fuel = f + 1 := ⟨fuel - 1, by omega⟩
          obtain ⟨e, w1, w2⟩ := o1 fuel (by omega)
          refine ⟨e, ?_, w2⟩
          show (f_X8_readSteps_b17 14 4 (c + 1) (nI j) h).bind _ = _
          rw [cb _ _ (ox _ _ e1), if_neg (by decide)]
          exact w1
        · obtain ⟨fuel, rfl⟩ : ∃ f, fuel = f + 1 := ⟨fuel - 1, by omega⟩
          have orp := r_part mr pv nv
          rw [hp] at orp
          obtain ⟨k', e2, mr'⟩ := orp
          obtain ⟨k'', w1, w2⟩ := o2 k0 k' fuel (by omega) mr'
          refine ⟨k'', ?_, w2⟩
          show (f_X12_plan_b38 113 (nI 1) k).bind _ = _
          rw [rb k0 k mr _ _ e2]
          exact w1
theorem p_loop20 {h0 : aH} {c : Nat} {T : Nat → Nat} {n m : Nat} {C : Nat → Nat} {V : Nat → List Nat} (nv : NV C V) : ∀ (d i : Nat) (K : Nat → Nat → Nat) (N dp : Nat) (op : Nat → Nat) (h : aH) (j : Nat), m - i ≤ d → j ≤ i → MCp h0 h 20 c T n m i C V K N dp op → PVp C K N dp op → ∃ o, (∀ fuel, d < fuel → ∃ e, whileL fuel (fun q : Int32 × aH => f_X8_readSteps_b17 20 4 (c + 1) q.1 q.2) (nI j, h) = some e ∧ ECp h0 20 c T n m C V e o) ∧ ∀ k0 k fuel, d + 1 < fuel → MRp k0 k T n i C V K N dp op → ∃ k', whileL fuel (fun q : Int32 × aH => f_X12_plan_b38 113 q.1 q.2) (nI 1, k) = some k' ∧ ERp k0 k' T n C V o
  | d, i, K, N, dp, op, h, j, hd, hj, mc, pv => by
    have lc := mc.2.1
    have hl := lc.1
    have im := lc.2.2.2
    have m9 := lc.2.1.1.1
    have tl := tc_le (T := T) (n := n) (i := i)
    have e10 : h.2.1 4 10 = nI (tcI T n i) := lc.2.2.1.2.1
    by_cases t0 : tcI T n i = 0
    · refine ⟨.inr (i, K, N, dp, op), fun fuel hf => ?_, fun k0 k fuel hf mr => ?_⟩
      · obtain ⟨fuel, rfl⟩ : ∃ f, fuel = f + 1 := ⟨fuel - 1, by omega⟩
        refine ⟨.inr h, ?_, h, rfl, mc, pv, t0⟩
        show (f_X8_readSteps_b17 20 4 (c + 1) (nI j) h).bind _ = _
        rw [t0] at e10
        have b : f_X8_readSteps_b17 20 4 (c + 1) (nI j) h = some (.inr (.inr h)) := by simp (disch := first | assumption | omega | decide | ((repeat first | apply lyI | apply lyJ | apply lywI | apply lywJ | apply csI | apply csJ | apply cswI | apply cswJ); assumption)) only [f_X8_readSteps_b17, SX, LI, ↓li_m1, nI_add, pk_mul, nn_sub, nn_m1, nn_div, nn_rem, nn_nz, nn_mod, nJ_l, lN_add, lN_mul, nn_tb1, nI_bt, nn_and, nn_or, nn_xor, nn_shr, nn_1shl, nn_31, il_p, il_n, it_p, it_n, ie_p, ie_n, ie_b, ie_b1, ie_m, ie_mm, it_m, it_m0, il_m0, bI_rZ, Option.bind_some, bd2_some, Nat.add_zero, Nat.zero_add, if_true, if_false, Bool.false_eq_true, eq_self, hI_R, hJ_R, ng_t, ng_e, e10]
        rw [b]
        rfl
      · obtain ⟨fuel, rfl⟩ : ∃ f, fuel = f + 1 := ⟨fuel - 1, by omega⟩
        refine ⟨k, ?_, mr⟩
        show (f_X12_plan_b38 113 (nI 1) k).bind _ = _
        have kl := mr.2.1.1
        have e13 : k.2.1 113 13 = nI 0 := by
          have := mr.2.1.2.1.2.2.2.1
          rw [t0] at this
          exact this
        have b : f_X12_plan_b38 113 (nI 1) k = some (.inr k) := by simp (disch := first | assumption | omega | decide | ((repeat first | apply lyI | apply lyJ | apply lywI | apply lywJ | apply csI | apply csJ | apply cswI | apply cswJ); assumption)) only [f_X12_plan_b38, SM, LI, ↓li_m1, nI_add, pk_mul, nn_sub, nn_m1, nn_div, nn_rem, nn_nz, nn_mod, nJ_l, lN_add, lN_mul, nn_tb1, nI_bt, nn_and, nn_or, nn_xor, nn_shr, nn_1shl, nn_31, il_p, il_n, it_p, it_n, ie_p, ie_n, ie_b, ie_b1, ie_m, ie_mm, it_m, it_m0, il_m0, bI_rZ, Option.bind_some, bd2_some, Nat.add_zero, Nat.zero_add, if_true, if_false, Bool.false_eq_true, eq_self, hI_R, hJ_R, ng_t, ng_e, e13]
        rw [b]
        rfl
    · have im' : i < m ∨ tcI T n i = 1 := by
        rcases Nat.lt_or_ge i m with u | u
        · exact Or.inl u
        · have := lc.2.1.1.2.2.1
          have : i = m := by omega
          subst this
          omega
      have rb : ∀ k0 k, MRp k0 k T n i C V K N dp op → ∀ r k', f_X12_step k 113 = some (r, k') → f_X12_plan_b38 113 (nI 1) k = some (.inl (r, k')) := fun k0 k mr r k' hr => by
        have kl := mr.2.1.1
        have e13 := mr.2.1.2.1.2.2.2.1
        have c0 : clN (tcI T n i) ≠ 0 ∧ clN (tcI T n i) < 5 := by
          unfold clN
          rw [if_neg t0]
          repeat' split
          all_goals decide
        obtain ⟨c1, c2⟩ := c0
        simp (disch := first | assumption | omega | decide | ((repeat first | apply lyI | apply lyJ | apply lywI | apply lywJ | apply csI | apply csJ | apply cswI | apply cswJ); assumption)) only [f_X12_plan_b38, SM, LI, ↓li_m1, nI_add, pk_mul, nn_sub, nn_m1, nn_div, nn_rem, nn_nz, nn_mod, nJ_l, lN_add, lN_mul, nn_tb1, nI_bt, nn_and, nn_or, nn_xor, nn_shr, nn_1shl, nn_31, il_p, il_n, it_p, it_n, ie_p, ie_n, ie_b, ie_b1, ie_m, ie_mm, it_m, it_m0, il_m0, bI_rZ, Option.bind_some, bd2_some, Nat.add_zero, Nat.zero_add, if_true, if_false, Bool.false_eq_true, eq_self, hI_R, hJ_R, ng_t, ng_e, e13, hr]
      have cb : ∀ r h', ((tcI T n i = 34 ∧ f_X8_readEnd h 20 4 = some (r, h')) ∨ (tcI T n i ≠ 34 ∧ f_X8_readStep h 20 4 (c + 1) = some (r, h'))) → f_X8_readSteps_b17 20 4 (c + 1) (nI j) h = if r = nI 0 then some (.inr (.inl h')) else some (.inl (nI (j + 1), h')) := fun r h' hr => by
        rcases hr with ⟨t, hr⟩ | ⟨t, hr⟩
        · rw [t] at e10
          simp (disch := first | assumption | omega | decide | ((repeat first | apply lyI | apply lyJ | apply lywI | apply lywJ | apply csI | apply csJ | apply cswI | apply cswJ); assumption)) only [f_X8_readSteps_b17, f_X8_readSteps_j62, SP20, SX, LI, ↓li_m1, nI_add, pk_mul, nn_sub, nn_m1, nn_div, nn_rem, nn_nz, nn_mod, nJ_l, lN_add, lN_mul, nn_tb1, nI_bt, nn_and, nn_or, nn_xor, nn_shr, nn_1shl, nn_31, il_p, il_n, it_p, it_n, ie_p, ie_n, ie_b, ie_b1, ie_m, ie_mm, it_m, it_m0, il_m0, bI_rZ, Option.bind_some, bd2_some, Nat.add_zero, Nat.zero_add, if_true, if_false, Bool.false_eq_true, eq_self, hI_R, hJ_R, ng_t, ng_e, e10, hr]
        · simp (disch := first | assumption | omega | decide | ((repeat first | apply lyI | apply lyJ | apply lywI | apply lywJ | apply csI | apply csJ | apply cswI | apply cswJ); assumption)) only [f_X8_readSteps_b17, f_X8_readSteps_j62, SP20, SX, LI, ↓li_m1, nI_add, pk_mul, nn_sub, nn_m1, nn_div, nn_rem, nn_nz, nn_mod, nJ_l, lN_add, lN_mul, nn_tb1, nI_bt, nn_and, nn_or, nn_xor, nn_shr, nn_1shl, nn_31, il_p, il_n, it_p, it_n, ie_p, ie_n, ie_b, ie_b1, ie_m, ie_mm, it_m, it_m0, il_m0, bI_rZ, Option.bind_some, bd2_some, Nat.add_zero, Nat.zero_add, if_true, if_false, Bool.false_eq_true, eq_self, hI_R, hJ_R, ng_t, ng_e, e10, hr]
      have oc : ∃ x, OCp h0 20 c T n m C V N x (pStep T n i C V K N dp op) ∧ ∀ r h', x = some (r, h') → ((tcI T n i = 34 ∧ f_X8_readEnd h 20 4 = some (r, h')) ∨ (tcI T n i ≠ 34 ∧ f_X8_readStep h 20 4 (c + 1) = some (r, h'))) := by
        by_cases t : tcI T n i = 34
        · exact ⟨_, x_end20 mc pv t, fun r h' e => Or.inl ⟨t, e⟩⟩
        · exact ⟨_, x_part20 mc pv nv t, fun r h' e => Or.inr ⟨t, e⟩⟩
      obtain ⟨x, oc, ox⟩ := oc
      cases hp : pStep T n i C V K N dp op with
      | inl fq =>
        obtain ⟨f, q⟩ := fq
        rw [hp] at oc
        obtain ⟨h', e1, f1, l1⟩ := oc
        obtain ⟨fb1, fb2⟩ := ps_f hp
        refine ⟨.inl (f, q), fun fuel hf => ?_, fun k0 k fuel hf mr => ?_⟩
        · obtain ⟨fuel, rfl⟩ : ∃ f, fuel = f + 1 := ⟨fuel - 1, by omega⟩
          refine ⟨.inl h', ?_, fb1, fb2, h', rfl, f1, l1⟩
          show (f_X8_readSteps_b17 20 4 (c + 1) (nI j) h).bind _ = _
          rw [cb _ _ (ox _ _ e1), if_pos rfl]
          rfl
        · obtain ⟨fuel, rfl⟩ : ∃ f, fuel = f + 1 + 1 := ⟨fuel - 2, by omega⟩
          have orp := r_part mr pv nv
          rw [hp] at orp
          obtain ⟨k', e2, f2, l2⟩ := orp
          refine ⟨k', ?_, f2, l2⟩
          show (f_X12_plan_b38 113 (nI 1) k).bind _ = _
          rw [rb k0 k mr _ _ e2]
          show whileL (fuel + 1) (fun q : Int32 × aH => f_X12_plan_b38 113 q.1 q.2) (nI 0, k') = _
          show (f_X12_plan_b38 113 (nI 0) k').bind _ = _
          have b : f_X12_plan_b38 113 (nI 0) k' = some (.inr k') := by simp (disch := first | assumption | omega | decide | ((repeat first | apply lyI | apply lyJ | apply lywI | apply lywJ | apply csI | apply csJ | apply cswI | apply cswJ); assumption)) only [f_X12_plan_b38, LI, ↓li_m1, nI_add, pk_mul, nn_sub, nn_m1, nn_div, nn_rem, nn_nz, nn_mod, nJ_l, lN_add, lN_mul, nn_tb1, nI_bt, nn_and, nn_or, nn_xor, nn_shr, nn_1shl, nn_31, il_p, il_n, it_p, it_n, ie_p, ie_n, ie_b, ie_b1, ie_m, ie_mm, it_m, it_m0, il_m0, bI_rZ, Option.bind_some, bd2_some, Nat.add_zero, Nat.zero_add, if_true, if_false, Bool.false_eq_true, eq_self, hI_R, hJ_R, ng_t, ng_e]
          rw [b]
          rfl
      | inr s =>
        obtain ⟨i', K', dp', op'⟩ := s
        rw [hp] at oc
        obtain ⟨h', e1, mc'⟩ := oc
        obtain ⟨ii, pv'⟩ := ps_ok pv nv hp
        have im2 := mc'.2.1.2.2.2
        obtain ⟨d', rfl⟩ : ∃ d', d = d' + 1 := ⟨d - 1, by omega⟩
        obtain ⟨o, o1, o2⟩ := p_loop20 nv d' i' K' (N + 1) dp' op' h' (j + 1) (by omega) (by omega) mc' pv'
        refine ⟨o, fun fuel hf => ?_, fun k0 k fuel hf mr => ?_⟩
        · obtain ⟨fuel, rfl⟩ : ∃ f, fuel = f + 1 := ⟨fuel - 1, by omega⟩
          obtain ⟨e, w1, w2⟩ := o1 fuel (by omega)
          refine ⟨e, ?_, w2⟩
          show (f_X8_readSteps_b17 20 4 (c + 1) (nI j) h).bind _ = _
          rw [cb _ _ (ox _ _ e1), if_neg (by decide)]
          exact w1
        · obtain ⟨fuel, rfl⟩ : ∃ f, fuel = f + 1 := ⟨fuel - 1, by omega⟩
          have orp := r_part mr pv nv
          rw [hp] at orp
          obtain ⟨k', e2, mr'⟩ := orp
          obtain ⟨k'', w1, w2⟩ := o2 k0 k' fuel (by omega) mr'
          refine ⟨k'', ?_, w2⟩
          show (f_X12_plan_b38 113 (nI 1) k).bind _ = _
          rw [rb k0 k mr _ _ e2]
          exact w1
