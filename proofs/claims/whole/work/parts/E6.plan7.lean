/-! ===== plans: the reference's steps ===== -/
/-- within the row that is read: its places hold R -/
def RWp (k0 k : aH) (T : Nat → Nat) (n j : Nat) (C : Nat → Nat) (V : Nat → List Nat) (K : Nat → Nat → Nat) (N dp : Nat) (op : Nat → Nat) (st : Nat) (R : Nat → Nat) : Prop := (FR k0 k [114, 125] [] [] G30 ∧ ∀ x, x < 1607 → k.2.1 114 x = k0.2.1 114 x) ∧ RC k T n j ∧ NRe k 0 C V ∧ (k.2.1 114 3 = nI (C 2) ∧ k.2.1 114 4 = nI (C 3)) ∧ (k.2.1 113 29 = nI dp ∧ k.2.1 113 30 = nI st ∧ k.2.1 114 1607 = nI (N + 1)) ∧ (∀ r j, r < N → j < 4 → k.2.1 114 (1748 + 4 * r + j) = nI (K r j)) ∧ (∀ p, p < 4 → k.2.1 114 (1748 + 4 * N + p) = nI (R p)) ∧ ∀ e, e < dp → k.2.1 125 e = nI (op e)
def r4 (a b c d : Nat) : Nat → Nat := fun p => if p = 0 then a else if p = 1 then b else if p = 2 then c else d
theorem rwp_up {k0 k k1 : aH} {T : Nat → Nat} {n j j' : Nat} {C : Nat → Nat} {V : Nat → List Nat} {K : Nat → Nat → Nat} {N dp : Nat} {op : Nat → Nat} {st : Nat} {R R' : Nat → Nat} (rp : RWp k0 k T n j C V K N dp op st R) {p x : Nat} (p4 : p < 4) (f : FR (hI k 114 (1748 + 4 * N + p) (nI x)) k1 [] [] [] F13) (l : RC k1 T n j') (hR : ∀ q, q < 4 → R' q = if q = p then x else R q) : RWp k0 k1 T n j' C V K N dp op st R' := by
  obtain ⟨⟨f0, a0⟩, rc, nr, ⟨q3, q4⟩, ⟨d1, d2, d3⟩, rw, rn, ro⟩ := rp
  obtain ⟨p1, p2, p3, p4', p5⟩ := rp_fr f l
  have fk : FR k (hI k 114 (1748 + 4 * N + p) (nI x)) [114] [] [] [] := FR.hI (by decide) (by decide) (by decide)
  have k114 : ∀ y, y ≠ 1748 + 4 * N + p → k1.2.1 114 y = k.2.1 114 y := fun y hy => by rw [p1, rI_nk hy]
  refine ⟨⟨(f0.tr (fk.mono (by decide) (by decide) (by decide) (by decide))).tr (f.mono (by decide) (by decide) (by decide) (by decide)), fun y hy => (k114 y (by omega)).trans (a0 y hy)⟩, l, nr_fr f (by decide) (nr_fr fk (by decide) nr), ⟨(k114 3 (by omega)).trans q3, (k114 4 (by omega)).trans q4⟩, ⟨p3.trans d1, p4'.trans d2, (k114 1607 (by omega)).trans d3⟩, fun r j hr hj => (k114 _ (by omega)).trans (rw r j hr hj), fun q hq => ?_, fun e he => by rw [p2]; exact ro e he⟩
  rw [hR q hq]
  by_cases hqp : q = p
  · rw [if_pos hqp, hqp, p1, rI_eq]
  · rw [if_neg hqp]
    exact (k114 _ (by omega)).trans (rn q hq)
theorem rwp_fail {k0 k k1 : aH} {T : Nat → Nat} {n j : Nat} {C : Nat → Nat} {V : Nat → List Nat} {K : Nat → Nat → Nat} {N dp : Nat} {op : Nat → Nat} {st : Nat} {R : Nat → Nat} (rp : RWp k0 k T n j C V K N dp op st R) (f : FR k k1 [] [] [] F13) : FR k0 k1 [114, 125] [] [] G30 ∧ ∀ x, x < 1607 → k1.2.1 114 x = k0.2.1 114 x :=
  ⟨rp.1.1.tr (f.mono (by decide) (by decide) (by decide) (by decide)), fun x hx => by rw [f.I 114 (by decide) (by decide) (by decide)]; exact rp.1.2 x hx⟩
theorem lt4f {P : Nat → Prop} (h0 : P 0) (h1 : P 1) (h2 : P 2) (h3 : P 3) : ∀ q, q < 4 → P q := fun q hq => by
  rcases lt4 hq with rfl | rfl | rfl | rfl
  · exact h0
  · exact h1
  · exact h2
  · exact h3
theorem mr_of {k0 k : aH} {T : Nat → Nat} {n j : Nat} {C : Nat → Nat} {V : Nat → List Nat} {K : Nat → Nat → Nat} {N dp : Nat} {op : Nat → Nat} {a b c d : Nat} (ha : a ≠ 26) (rp : RWp k0 k T n j C V K N dp op (sgK K N + 1) (r4 a b c d)) : MRp k0 k T n j C V (rwK K N a b c d) (N + 1) dp op := by
  obtain ⟨f0, rc, nr, q, ⟨d1, d2, d3⟩, rw, rn, ro⟩ := rp
  refine ⟨f0, rc, nr, q, ⟨d1, by rw [rw_sg1 ha]; exact d2, d3⟩, fun r j hr hj => ?_, ro⟩
  rcases Nat.lt_or_ge r N with u | u
  · rw [rw_lt (by omega)]
    exact rw r j u hj
  · obtain rfl : r = N := by omega
    rw [rn j hj]
    unfold rwK
    rw [if_pos rfl]
    rfl
theorem r_row2 {k0 k : aH} {T : Nat → Nat} {n i : Nat} {C : Nat → Nat} {V : Nat → List Nat} {K : Nat → Nat → Nat} {N dp : Nat} {op : Nat → Nat} (mr : MRp k0 k T n i C V K N dp op) (hN : N < 60) (v s : Nat) (hs : s < 100) : ∃ k', RWp k0 k' T n (i + 1) C V K N dp op (sgK K N + s) (r4 v 0 0 0) ∧ f_X12_step_j114 k 113 (nI v) (nI N) (nI (1748 + 4 * N)) 113 (nI (sgK K N)) (nI s) = if nI v = nI 17 then f_X12_step_j178 k' 113 (nI v) (nI N) (nI (1748 + 4 * N)) else if nI v = nI 18 then f_X12_step_j178 k' 113 (nI v) (nI N) (nI (1748 + 4 * N)) else f_X12_step_j198 k' 113 (nI v) (nI N) (nI (1748 + 4 * N)) := by
  obtain ⟨k', a1, a2, a3, a4, a5, a6, ⟨a7, a8, a9, a10⟩, a11, a12⟩ := r_row mr hN v s hs
  exact ⟨k', ⟨a1, a2, a3, a4, a5, a6, lt4f a7 a8 a9 a10, a11⟩, a12⟩
theorem r_tail {k : aH} {v N r : Nat} (h1 : v ≠ 21) (h2 : v ≠ 26) (hv : v < 100) : f_X12_step_j230 k 113 (nI v) (nI N) (nI r) = f_X12_step_j311 k 113 := by
  simp (disch := first | assumption | omega | decide | ((repeat first | apply lyI | apply lyJ | apply lywI | apply lywJ | apply csI | apply csJ | apply cswI | apply cswJ); assumption)) only [f_X12_step_j230, f_X12_step_j246, f_X12_step_j272, LI, ↓li_m1, nI_add, pk_mul, nn_sub, nn_m1, nn_div, nn_rem, nn_nz, nn_mod, nJ_l, lN_add, lN_mul, nn_tb1, nI_bt, nn_and, nn_or, nn_xor, nn_shr, nn_1shl, nn_31, il_p, il_n, it_p, it_n, ie_p, ie_n, ie_b, ie_b1, ie_m, ie_mm, it_m, it_m0, il_m0, bI_rZ, Option.bind_some, bd2_some, Nat.add_zero, Nat.zero_add, if_true, if_false, Bool.false_eq_true, eq_self, hI_R, hJ_R, ng_t, ng_e]
/-- a question's name into a place of the row -/
theorem r_q {k0 k : aH} {T : Nat → Nat} {n j : Nat} {C : Nat → Nat} {V : Nat → List Nat} {K : Nat → Nat → Nat} {N dp : Nat} {op : Nat → Nat} {st : Nat} {R : Nat → Nat} (rp : RWp k0 k T n j C V K N dp op st R) (nv : NV C V) (hN : N < 60) {s : Nat} (hs : (s = 2) ∨ (s = 3)) {p : Nat} (p4 : p < 4) : (∀ a, nmO T n j C V s = some a → ∃ k', f_X12_name k 113 (nI (1748 + 4 * N + p)) (nI (nbN s)) (nI (C s)) = some (nI 1, k') ∧ RWp k0 k' T n (j + 1) C V K N dp op st (fun q => if q = p then a else R q)) ∧ (nmO T n j C V s = none → ∃ k', f_X12_name k 113 (nI (1748 + 4 * N + p)) (nI (nbN s)) (nI (C s)) = some (nI 0, k') ∧ FR k k' [] [] [] F13 ∧ RLx k' (nmF T n j) (frI T n j)) := by
  obtain ⟨y1, y2⟩ := r_nameTo (to := 1748 + 4 * N + p) rp.2.1 rp.2.2.1 nv (s := s) (by omega) (by omega)
  refine ⟨fun a ha => ?_, y2⟩
  obtain ⟨k', r, f, l⟩ := y1 a ha
  exact ⟨k', r, rwp_up rp p4 f l (fun q _ => rfl)⟩
theorem pn_60 {C : Nat → Nat} {K : Nat → Nat → Nat} {N dp : Nat} {op : Nat → Nat} (pv : PVp C K N dp op) (h : sgK K N < 30) : N < 60 := by
  have := pv.2.2.1
  omega
/-- up to the row: 17 ask, 18 best, 19 next, 20 rule, 21 when -/
theorem r_head {k0 k : aH} {T : Nat → Nat} {n i : Nat} {C : Nat → Nat} {V : Nat → List Nat} {K : Nat → Nat → Nat} {N dp : Nat} {op : Nat → Nat} (mr : MRp k0 k T n i C V K N dp op) (pv : PVp C K N dp op) {v : Nat} (v1 : 17 ≤ v) (v2 : v ≤ 21) (t : tcI T n i = v + 8) (s30 : sgK K N < 30) (td : v = 21 → dp < 3) : ∃ k', RWp k0 k' T n (i + 1) C V K N dp op (sgK K N + 1) (r4 v 0 0 0) ∧ f_X12_step k 113 = if nI v = nI 17 then f_X12_step_j178 k' 113 (nI v) (nI N) (nI (1748 + 4 * N)) else if nI v = nI 18 then f_X12_step_j178 k' 113 (nI v) (nI N) (nI (1748 + 4 * N)) else f_X12_step_j198 k' 113 (nI v) (nI N) (nI (1748 + 4 * N)) := by
  have n60 := pn_60 pv s30
  obtain ⟨k', rp, e⟩ := r_row2 mr n60 v 1 (by decide)
  obtain ⟨f0, rc, nr, q, ⟨d1, d2, d3⟩, rw, ro⟩ := mr
  have kl := rc.1
  have iw := r_inW kl rc.2.1
  have ei : iwI T n i = nI v := by
    unfold iwI
    rw [if_pos (by omega), show tcI T n i - 8 = v by omega]
    rcases (show v = 17 ∨ v = 18 ∨ v = 19 ∨ v = 20 ∨ v = 21 by omega) with rfl | rfl | rfl | rfl | rfl <;> rfl
  rw [ei] at iw
  refine ⟨k', rp, ?_⟩
  rw [← e]
  have b1 : f_X12_step k 113 = f_X12_step_j55 k 113 (nI v) (nI N) (nI (1748 + 4 * N)) := by simp (disch := first | assumption | omega | decide | ((repeat first | apply lyI | apply lyJ | apply lywI | apply lywJ | apply csI | apply csJ | apply cswI | apply cswJ); assumption)) only [f_X12_step, SM, LI, ↓li_m1, nI_add, pk_mul, nn_sub, nn_m1, nn_div, nn_rem, nn_nz, nn_mod, nJ_l, lN_add, lN_mul, nn_tb1, nI_bt, nn_and, nn_or, nn_xor, nn_shr, nn_1shl, nn_31, il_p, il_n, it_p, it_n, ie_p, ie_n, ie_b, ie_b1, ie_m, ie_mm, it_m, it_m0, il_m0, bI_rZ, Option.bind_some, bd2_some, Nat.add_zero, Nat.zero_add, if_true, if_false, Bool.false_eq_true, eq_self, hI_R, hJ_R, ng_t, ng_e, iw, d3]
  have b2 : f_X12_step_j55 k 113 (nI v) (nI N) (nI (1748 + 4 * N)) = f_X12_step_j77 k 113 (nI v) (nI N) (nI (1748 + 4 * N)) := by simp (disch := first | assumption | omega | decide | ((repeat first | apply lyI | apply lyJ | apply lywI | apply lywJ | apply csI | apply csJ | apply cswI | apply cswJ); assumption)) only [f_X12_step_j55, SM, LI, ↓li_m1, nI_add, pk_mul, nn_sub, nn_m1, nn_div, nn_rem, nn_nz, nn_mod, nJ_l, lN_add, lN_mul, nn_tb1, nI_bt, nn_and, nn_or, nn_xor, nn_shr, nn_1shl, nn_31, il_p, il_n, it_p, it_n, ie_p, ie_n, ie_b, ie_b1, ie_m, ie_mm, it_m, it_m0, il_m0, bI_rZ, Option.bind_some, bd2_some, Nat.add_zero, Nat.zero_add, if_true, if_false, Bool.false_eq_true, eq_self, hI_R, hJ_R, ng_t, ng_e, d2]
  have b3 : f_X12_step_j77 k 113 (nI v) (nI N) (nI (1748 + 4 * N)) = f_X12_step_j98 k 113 (nI v) (nI N) (nI (1748 + 4 * N)) := by
    by_cases h21 : v = 21
    · have := td h21
      subst h21
      simp (disch := first | assumption | omega | decide | ((repeat first | apply lyI | apply lyJ | apply lywI | apply lywJ | apply csI | apply csJ | apply cswI | apply cswJ); assumption)) only [f_X12_step_j77, SM, LI, ↓li_m1, nI_add, pk_mul, nn_sub, nn_m1, nn_div, nn_rem, nn_nz, nn_mod, nJ_l, lN_add, lN_mul, nn_tb1, nI_bt, nn_and, nn_or, nn_xor, nn_shr, nn_1shl, nn_31, il_p, il_n, it_p, it_n, ie_p, ie_n, ie_b, ie_b1, ie_m, ie_mm, it_m, it_m0, il_m0, bI_rZ, Option.bind_some, bd2_some, Nat.add_zero, Nat.zero_add, if_true, if_false, Bool.false_eq_true, eq_self, hI_R, hJ_R, ng_t, ng_e, d1]
    · simp (disch := first | assumption | omega | decide | ((repeat first | apply lyI | apply lyJ | apply lywI | apply lywJ | apply csI | apply csJ | apply cswI | apply cswJ); assumption)) only [f_X12_step_j77, SM, LI, ↓li_m1, nI_add, pk_mul, nn_sub, nn_m1, nn_div, nn_rem, nn_nz, nn_mod, nJ_l, lN_add, lN_mul, nn_tb1, nI_bt, nn_and, nn_or, nn_xor, nn_shr, nn_1shl, nn_31, il_p, il_n, it_p, it_n, ie_p, ie_n, ie_b, ie_b1, ie_m, ie_mm, it_m, it_m0, il_m0, bI_rZ, Option.bind_some, bd2_some, Nat.add_zero, Nat.zero_add, if_true, if_false, Bool.false_eq_true, eq_self, hI_R, hJ_R, ng_t, ng_e]
  have b4 : f_X12_step_j98 k 113 (nI v) (nI N) (nI (1748 + 4 * N)) = f_X12_step_j114 k 113 (nI v) (nI N) (nI (1748 + 4 * N)) 113 (nI (sgK K N)) (nI 1) := by simp (disch := first | assumption | omega | decide | ((repeat first | apply lyI | apply lyJ | apply lywI | apply lywJ | apply csI | apply csJ | apply cswI | apply cswJ); assumption)) only [f_X12_step_j98, SM, LI, ↓li_m1, nI_add, pk_mul, nn_sub, nn_m1, nn_div, nn_rem, nn_nz, nn_mod, nJ_l, lN_add, lN_mul, nn_tb1, nI_bt, nn_and, nn_or, nn_xor, nn_shr, nn_1shl, nn_31, il_p, il_n, it_p, it_n, ie_p, ie_n, ie_b, ie_b1, ie_m, ie_mm, it_m, it_m0, il_m0, bI_rZ, Option.bind_some, bd2_some, Nat.add_zero, Nat.zero_add, if_true, if_false, Bool.false_eq_true, eq_self, hI_R, hJ_R, ng_t, ng_e, d2]
  rw [b1, b2, b3, b4]
theorem r_ask {k0 k : aH} {T : Nat → Nat} {n i : Nat} {C : Nat → Nat} {V : Nat → List Nat} {K : Nat → Nat → Nat} {N dp : Nat} {op : Nat → Nat} (mr : MRp k0 k T n i C V K N dp op) (pv : PVp C K N dp op) (nv : NV C V) (t : tcI T n i = 25) (s30 : sgK K N < 30) : ORp k0 T n C V N (f_X12_step k 113) (pStep T n i C V K N dp op) := by
  have n60 := pn_60 pv s30
  obtain ⟨k1, rp, e⟩ := r_head mr pv (v := 17) (by decide) (by decide) t s30 (by omega)
  rw [if_pos rfl] at e
  have ep : pStep T n i C V K N dp op = (match nmO T n (i + 1) C V 3 with
    | none => .inl (nmF T n (i + 1), frI T n (i + 1))
    | some a => match nmO T n (i + 2) C V 2 with
      | none => .inl (nmF T n (i + 2), frI T n (i + 2))
      | some b => smS T n (i + 3) (rwK K N 17 a b 0) dp op) := by
    unfold pStep
    rw [if_neg (by omega), if_neg (by omega), if_neg (by omega), if_pos t]
    rfl
  rw [e, ep]
  have l1 := rp.2.1.1
  have c3 := rp.2.2.2.1.1
  have c4 := rp.2.2.2.1.2
  obtain ⟨y1, y2⟩ := r_q rp nv n60 (s := 3) (Or.inr rfl) (p := 1) (by decide)
  cases ha : nmO T n (i + 1) C V 3 with
  | none =>
    obtain ⟨k', r, f, l⟩ := y2 ha
    have r' : f_X12_name k1 113 (nI (1748 + 4 * N + 1)) (nI 40) (nI (C 3)) = some (nI 0, k') := r
    exact ⟨k', by simp (disch := first | assumption | omega | decide | ((repeat first | apply lyI | apply lyJ | apply lywI | apply lywJ | apply csI | apply csJ | apply cswI | apply cswJ); assumption)) only [f_X12_step_j178, SM, LI, ↓li_m1, nI_add, pk_mul, nn_sub, nn_m1, nn_div, nn_rem, nn_nz, nn_mod, nJ_l, lN_add, lN_mul, nn_tb1, nI_bt, nn_and, nn_or, nn_xor, nn_shr, nn_1shl, nn_31, il_p, il_n, it_p, it_n, ie_p, ie_n, ie_b, ie_b1, ie_m, ie_mm, it_m, it_m0, il_m0, bI_rZ, Option.bind_some, bd2_some, Nat.add_zero, Nat.zero_add, if_true, if_false, Bool.false_eq_true, eq_self, hI_R, hJ_R, ng_t, ng_e, c4, r'], rwp_fail rp f, l⟩
  | some a =>
    obtain ⟨k2, r, rp2⟩ := y1 a ha
    have r' : f_X12_name k1 113 (nI (1748 + 4 * N + 1)) (nI 40) (nI (C 3)) = some (nI 1, k2) := r
    have l2 := rp2.2.1.1
    have z3 := rp2.2.2.2.1.1
    have b1 : f_X12_step_j178 k1 113 (nI 17) (nI N) (nI (1748 + 4 * N)) = f_X12_step_j198 k2 113 (nI 17) (nI N) (nI (1748 + 4 * N)) := by simp (disch := first | assumption | omega | decide | ((repeat first | apply lyI | apply lyJ | apply lywI | apply lywJ | apply csI | apply csJ | apply cswI | apply cswJ); assumption)) only [f_X12_step_j178, SM, LI, ↓li_m1, nI_add, pk_mul, nn_sub, nn_m1, nn_div, nn_rem, nn_nz, nn_mod, nJ_l, lN_add, lN_mul, nn_tb1, nI_bt, nn_and, nn_or, nn_xor, nn_shr, nn_1shl, nn_31, il_p, il_n, it_p, it_n, ie_p, ie_n, ie_b, ie_b1, ie_m, ie_mm, it_m, it_m0, il_m0, bI_rZ, Option.bind_some, bd2_some, Nat.add_zero, Nat.zero_add, if_true, if_false, Bool.false_eq_true, eq_self, hI_R, hJ_R, ng_t, ng_e, c4, r']
    have b2 : f_X12_step_j198 k2 113 (nI 17) (nI N) (nI (1748 + 4 * N)) = f_X12_step_j210 k2 113 (nI 17) (nI N) (nI (1748 + 4 * N)) := by simp (disch := first | assumption | omega | decide | ((repeat first | apply lyI | apply lyJ | apply lywI | apply lywJ | apply csI | apply csJ | apply cswI | apply cswJ); assumption)) only [f_X12_step_j198, LI, ↓li_m1, nI_add, pk_mul, nn_sub, nn_m1, nn_div, nn_rem, nn_nz, nn_mod, nJ_l, lN_add, lN_mul, nn_tb1, nI_bt, nn_and, nn_or, nn_xor, nn_shr, nn_1shl, nn_31, il_p, il_n, it_p, it_n, ie_p, ie_n, ie_b, ie_b1, ie_m, ie_mm, it_m, it_m0, il_m0, bI_rZ, Option.bind_some, bd2_some, Nat.add_zero, Nat.zero_add, if_true, if_false, Bool.false_eq_true, eq_self, hI_R, hJ_R, ng_t, ng_e]
    rw [b1, b2]
    obtain ⟨u1, u2⟩ := r_q rp2 nv n60 (s := 2) (Or.inl rfl) (p := 2) (by decide)
    cases hb : nmO T n (i + 1 + 1) C V 2 with
    | none =>
      obtain ⟨k', q, f, l⟩ := u2 hb
      have q' : f_X12_name k2 113 (nI (1748 + 4 * N + 2)) (nI 28) (nI (C 2)) = some (nI 0, k') := q
      exact ⟨k', by simp (disch := first | assumption | omega | decide | ((repeat first | apply lyI | apply lyJ | apply lywI | apply lywJ | apply csI | apply csJ | apply cswI | apply cswJ); assumption)) only [f_X12_step_j210, SM, LI, ↓li_m1, nI_add, pk_mul, nn_sub, nn_m1, nn_div, nn_rem, nn_nz, nn_mod, nJ_l, lN_add, lN_mul, nn_tb1, nI_bt, nn_and, nn_or, nn_xor, nn_shr, nn_1shl, nn_31, il_p, il_n, it_p, it_n, ie_p, ie_n, ie_b, ie_b1, ie_m, ie_mm, it_m, it_m0, il_m0, bI_rZ, Option.bind_some, bd2_some, Nat.add_zero, Nat.zero_add, if_true, if_false, Bool.false_eq_true, eq_self, hI_R, hJ_R, ng_t, ng_e, z3, q'], rwp_fail rp2 f, l⟩
    | some b =>
      obtain ⟨k3, q, rp3⟩ := u1 b hb
      have q' : f_X12_name k2 113 (nI (1748 + 4 * N + 2)) (nI 28) (nI (C 2)) = some (nI 1, k3) := q
      have b3 : f_X12_step_j210 k2 113 (nI 17) (nI N) (nI (1748 + 4 * N)) = f_X12_step_j230 k3 113 (nI 17) (nI N) (nI (1748 + 4 * N)) := by simp (disch := first | assumption | omega | decide | ((repeat first | apply lyI | apply lyJ | apply lywI | apply lywJ | apply csI | apply csJ | apply cswI | apply cswJ); assumption)) only [f_X12_step_j210, SM, LI, ↓li_m1, nI_add, pk_mul, nn_sub, nn_m1, nn_div, nn_rem, nn_nz, nn_mod, nJ_l, lN_add, lN_mul, nn_tb1, nI_bt, nn_and, nn_or, nn_xor, nn_shr, nn_1shl, nn_31, il_p, il_n, it_p, it_n, ie_p, ie_n, ie_b, ie_b1, ie_m, ie_mm, it_m, it_m0, il_m0, bI_rZ, Option.bind_some, bd2_some, Nat.add_zero, Nat.zero_add, if_true, if_false, Bool.false_eq_true, eq_self, hI_R, hJ_R, ng_t, ng_e, z3, q']
      rw [b3, r_tail (by decide) (by decide) (by decide)]
      exact r_semi (mr_of (a := 17) (b := a) (c := b) (d := 0) (by decide) ⟨rp3.1, rp3.2.1, rp3.2.2.1, rp3.2.2.2.1, rp3.2.2.2.2.1, rp3.2.2.2.2.2.1, lt4f (rp3.2.2.2.2.2.2.1 0 (by decide)) (rp3.2.2.2.2.2.2.1 1 (by decide)) (rp3.2.2.2.2.2.2.1 2 (by decide)) (rp3.2.2.2.2.2.2.1 3 (by decide)), rp3.2.2.2.2.2.2.2⟩)
theorem rwp_c {k0 k : aH} {T : Nat → Nat} {n j : Nat} {C : Nat → Nat} {V : Nat → List Nat} {K : Nat → Nat → Nat} {N dp : Nat} {op : Nat → Nat} {st : Nat} {R R' : Nat → Nat} (rp : RWp k0 k T n j C V K N dp op st R) (h0 : R' 0 = R 0) (h1 : R' 1 = R 1) (h2 : R' 2 = R 2) (h3 : R' 3 = R 3) : RWp k0 k T n j C V K N dp op st R' :=
  ⟨rp.1, rp.2.1, rp.2.2.1, rp.2.2.2.1, rp.2.2.2.2.1, rp.2.2.2.2.2.1, lt4f (by rw [h0]; exact rp.2.2.2.2.2.2.1 0 (by decide)) (by rw [h1]; exact rp.2.2.2.2.2.2.1 1 (by decide)) (by rw [h2]; exact rp.2.2.2.2.2.2.1 2 (by decide)) (by rw [h3]; exact rp.2.2.2.2.2.2.1 3 (by decide)), rp.2.2.2.2.2.2.2⟩
theorem r_best {k0 k : aH} {T : Nat → Nat} {n i : Nat} {C : Nat → Nat} {V : Nat → List Nat} {K : Nat → Nat → Nat} {N dp : Nat} {op : Nat → Nat} (mr : MRp k0 k T n i C V K N dp op) (pv : PVp C K N dp op) (nv : NV C V) (t : tcI T n i = 26) (s30 : sgK K N < 30) : ORp k0 T n C V N (f_X12_step k 113) (pStep T n i C V K N dp op) := by
  have n60 := pn_60 pv s30
  obtain ⟨k1, rp, e⟩ := r_head mr pv (v := 18) (by decide) (by decide) t s30 (by omega)
  rw [if_neg (by decide), if_pos rfl] at e
  have ep : pStep T n i C V K N dp op = (match nmO T n (i + 1) C V 3 with
    | none => .inl (nmF T n (i + 1), frI T n (i + 1))
    | some a => smS T n (i + 2) (rwK K N 18 a 0 0) dp op) := by
    unfold pStep
    rw [if_neg (by omega), if_neg (by omega), if_neg (by omega), if_neg (by omega), if_pos t]
    rfl
  rw [e, ep]
  have l1 := rp.2.1.1
  have c4 := rp.2.2.2.1.2
  obtain ⟨y1, y2⟩ := r_q rp nv n60 (s := 3) (Or.inr rfl) (p := 1) (by decide)
  cases ha : nmO T n (i + 1) C V 3 with
  | none =>
    obtain ⟨k', r, f, l⟩ := y2 ha
    have r' : f_X12_name k1 113 (nI (1748 + 4 * N + 1)) (nI 40) (nI (C 3)) = some (nI 0, k') := r
    exact ⟨k', by simp (disch := first | assumption | omega | decide | ((repeat first | apply lyI | apply lyJ | apply lywI | apply lywJ | apply csI | apply csJ | apply cswI | apply cswJ); assumption)) only [f_X12_step_j178, SM, LI, ↓li_m1, nI_add, pk_mul, nn_sub, nn_m1, nn_div, nn_rem, nn_nz, nn_mod, nJ_l, lN_add, lN_mul, nn_tb1, nI_bt, nn_and, nn_or, nn_xor, nn_shr, nn_1shl, nn_31, il_p, il_n, it_p, it_n, ie_p, ie_n, ie_b, ie_b1, ie_m, ie_mm, it_m, it_m0, il_m0, bI_rZ, Option.bind_some, bd2_some, Nat.add_zero, Nat.zero_add, if_true, if_false, Bool.false_eq_true, eq_self, hI_R, hJ_R, ng_t, ng_e, c4, r'], rwp_fail rp f, l⟩
  | some a =>
    obtain ⟨k2, r, rp2⟩ := y1 a ha
    have r' : f_X12_name k1 113 (nI (1748 + 4 * N + 1)) (nI 40) (nI (C 3)) = some (nI 1, k2) := r
    have b1 : f_X12_step_j178 k1 113 (nI 18) (nI N) (nI (1748 + 4 * N)) = f_X12_step_j198 k2 113 (nI 18) (nI N) (nI (1748 + 4 * N)) := by simp (disch := first | assumption | omega | decide | ((repeat first | apply lyI | apply lyJ | apply lywI | apply lywJ | apply csI | apply csJ | apply cswI | apply cswJ); assumption)) only [f_X12_step_j178, SM, LI, ↓li_m1, nI_add, pk_mul, nn_sub, nn_m1, nn_div, nn_rem, nn_nz, nn_mod, nJ_l, lN_add, lN_mul, nn_tb1, nI_bt, nn_and, nn_or, nn_xor, nn_shr, nn_1shl, nn_31, il_p, il_n, it_p, it_n, ie_p, ie_n, ie_b, ie_b1, ie_m, ie_mm, it_m, it_m0, il_m0, bI_rZ, Option.bind_some, bd2_some, Nat.add_zero, Nat.zero_add, if_true, if_false, Bool.false_eq_true, eq_self, hI_R, hJ_R, ng_t, ng_e, c4, r']
    have b2 : f_X12_step_j198 k2 113 (nI 18) (nI N) (nI (1748 + 4 * N)) = f_X12_step_j230 k2 113 (nI 18) (nI N) (nI (1748 + 4 * N)) := by simp (disch := first | assumption | omega | decide | ((repeat first | apply lyI | apply lyJ | apply lywI | apply lywJ | apply csI | apply csJ | apply cswI | apply cswJ); assumption)) only [f_X12_step_j198, LI, ↓li_m1, nI_add, pk_mul, nn_sub, nn_m1, nn_div, nn_rem, nn_nz, nn_mod, nJ_l, lN_add, lN_mul, nn_tb1, nI_bt, nn_and, nn_or, nn_xor, nn_shr, nn_1shl, nn_31, il_p, il_n, it_p, it_n, ie_p, ie_n, ie_b, ie_b1, ie_m, ie_mm, it_m, it_m0, il_m0, bI_rZ, Option.bind_some, bd2_some, Nat.add_zero, Nat.zero_add, if_true, if_false, Bool.false_eq_true, eq_self, hI_R, hJ_R, ng_t, ng_e]
    rw [b1, b2, r_tail (by decide) (by decide) (by decide)]
    exact r_semi (mr_of (a := 18) (b := a) (c := 0) (d := 0) (by decide) (rwp_c rp2 rfl rfl rfl rfl))
theorem r_rule {k0 k : aH} {T : Nat → Nat} {n i : Nat} {C : Nat → Nat} {V : Nat → List Nat} {K : Nat → Nat → Nat} {N dp : Nat} {op : Nat → Nat} (mr : MRp k0 k T n i C V K N dp op) (pv : PVp C K N dp op) (nv : NV C V) (t : tcI T n i = 28) (s30 : sgK K N < 30) : ORp k0 T n C V N (f_X12_step k 113) (pStep T n i C V K N dp op) := by
  have n60 := pn_60 pv s30
  obtain ⟨k1, rp, e⟩ := r_head mr pv (v := 20) (by decide) (by decide) t s30 (by omega)
  rw [if_neg (by decide), if_neg (by decide)] at e
  have ep : pStep T n i C V K N dp op = (match nmO T n (i + 1) C V 2 with
    | none => .inl (nmF T n (i + 1), frI T n (i + 1))
    | some b => smS T n (i + 2) (rwK K N 20 0 b 0) dp op) := by
    unfold pStep
    rw [if_neg (by omega), if_neg (by omega), if_neg (by omega), if_neg (by omega), if_neg (by omega), if_neg (by omega), if_pos t]
    rfl
  rw [e, ep]
  have l1 := rp.2.1.1
  have c3 := rp.2.2.2.1.1
  have b1 : f_X12_step_j198 k1 113 (nI 20) (nI N) (nI (1748 + 4 * N)) = f_X12_step_j210 k1 113 (nI 20) (nI N) (nI (1748 + 4 * N)) := by simp (disch := first | assumption | omega | decide | ((repeat first | apply lyI | apply lyJ | apply lywI | apply lywJ | apply csI | apply csJ | apply cswI | apply cswJ); assumption)) only [f_X12_step_j198, LI, ↓li_m1, nI_add, pk_mul, nn_sub, nn_m1, nn_div, nn_rem, nn_nz, nn_mod, nJ_l, lN_add, lN_mul, nn_tb1, nI_bt, nn_and, nn_or, nn_xor, nn_shr, nn_1shl, nn_31, il_p, il_n, it_p, it_n, ie_p, ie_n, ie_b, ie_b1, ie_m, ie_mm, it_m, it_m0, il_m0, bI_rZ, Option.bind_some, bd2_some, Nat.add_zero, Nat.zero_add, if_true, if_false, Bool.false_eq_true, eq_self, hI_R, hJ_R, ng_t, ng_e]
  rw [b1]
  obtain ⟨y1, y2⟩ := r_q rp nv n60 (s := 2) (Or.inl rfl) (p := 2) (by decide)
  cases ha : nmO T n (i + 1) C V 2 with
  | none =>
    obtain ⟨k', r, f, l⟩ := y2 ha
    have r' : f_X12_name k1 113 (nI (1748 + 4 * N + 2)) (nI 28) (nI (C 2)) = some (nI 0, k') := r
    exact ⟨k', by simp (disch := first | assumption | omega | decide | ((repeat first | apply lyI | apply lyJ | apply lywI | apply lywJ | apply csI | apply csJ | apply cswI | apply cswJ); assumption)) only [f_X12_step_j210, SM, LI, ↓li_m1, nI_add, pk_mul, nn_sub, nn_m1, nn_div, nn_rem, nn_nz, nn_mod, nJ_l, lN_add, lN_mul, nn_tb1, nI_bt, nn_and, nn_or, nn_xor, nn_shr, nn_1shl, nn_31, il_p, il_n, it_p, it_n, ie_p, ie_n, ie_b, ie_b1, ie_m, ie_mm, it_m, it_m0, il_m0, bI_rZ, Option.bind_some, bd2_some, Nat.add_zero, Nat.zero_add, if_true, if_false, Bool.false_eq_true, eq_self, hI_R, hJ_R, ng_t, ng_e, c3, r'], rwp_fail rp f, l⟩
  | some a =>
    obtain ⟨k2, r, rp2⟩ := y1 a ha
    have r' : f_X12_name k1 113 (nI (1748 + 4 * N + 2)) (nI 28) (nI (C 2)) = some (nI 1, k2) := r
    have b2 : f_X12_step_j210 k1 113 (nI 20) (nI N) (nI (1748 + 4 * N)) = f_X12_step_j230 k2 113 (nI 20) (nI N) (nI (1748 + 4 * N)) := by simp (disch := first | assumption | omega | decide | ((repeat first | apply lyI | apply lyJ | apply lywI | apply lywJ | apply csI | apply csJ | apply cswI | apply cswJ); assumption)) only [f_X12_step_j210, SM, LI, ↓li_m1, nI_add, pk_mul, nn_sub, nn_m1, nn_div, nn_rem, nn_nz, nn_mod, nJ_l, lN_add, lN_mul, nn_tb1, nI_bt, nn_and, nn_or, nn_xor, nn_shr, nn_1shl, nn_31, il_p, il_n, it_p, it_n, ie_p, ie_n, ie_b, ie_b1, ie_m, ie_mm, it_m, it_m0, il_m0, bI_rZ, Option.bind_some, bd2_some, Nat.add_zero, Nat.zero_add, if_true, if_false, Bool.false_eq_true, eq_self, hI_R, hJ_R, ng_t, ng_e, c3, r']
    rw [b2, r_tail (by decide) (by decide) (by decide)]
    exact r_semi (mr_of (a := 20) (b := 0) (c := a) (d := 0) (by decide) (rwp_c rp2 rfl rfl rfl rfl))
theorem r_next {k0 k : aH} {T : Nat → Nat} {n i : Nat} {C : Nat → Nat} {V : Nat → List Nat} {K : Nat → Nat → Nat} {N dp : Nat} {op : Nat → Nat} (mr : MRp k0 k T n i C V K N dp op) (pv : PVp C K N dp op) (t : tcI T n i = 27) (s30 : sgK K N < 30) : ORp k0 T n C V N (f_X12_step k 113) (pStep T n i C V K N dp op) := by
  obtain ⟨k1, rp, e⟩ := r_head mr pv (v := 19) (by decide) (by decide) t s30 (by omega)
  rw [if_neg (by decide), if_neg (by decide)] at e
  have ep : pStep T n i C V K N dp op = smS T n (i + 1) (rwK K N 19 0 0 0) dp op := by
    unfold pStep
    rw [if_neg (by omega), if_neg (by omega), if_neg (by omega), if_neg (by omega), if_neg (by omega), if_pos t]
  have b1 : f_X12_step_j198 k1 113 (nI 19) (nI N) (nI (1748 + 4 * N)) = f_X12_step_j230 k1 113 (nI 19) (nI N) (nI (1748 + 4 * N)) := by simp (disch := first | assumption | omega | decide | ((repeat first | apply lyI | apply lyJ | apply lywI | apply lywJ | apply csI | apply csJ | apply cswI | apply cswJ); assumption)) only [f_X12_step_j198, LI, ↓li_m1, nI_add, pk_mul, nn_sub, nn_m1, nn_div, nn_rem, nn_nz, nn_mod, nJ_l, lN_add, lN_mul, nn_tb1, nI_bt, nn_and, nn_or, nn_xor, nn_shr, nn_1shl, nn_31, il_p, il_n, it_p, it_n, ie_p, ie_n, ie_b, ie_b1, ie_m, ie_mm, it_m, it_m0, il_m0, bI_rZ, Option.bind_some, bd2_some, Nat.add_zero, Nat.zero_add, if_true, if_false, Bool.false_eq_true, eq_self, hI_R, hJ_R, ng_t, ng_e]
  rw [e, ep, b1, r_tail (by decide) (by decide) (by decide)]
  exact r_semi (mr_of (by decide) rp)
