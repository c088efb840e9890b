/-! ===== plans: both sides read a part ===== -/
/-- the class's word of a row of the reference -/
def wkN (x : Nat) : Nat := if x < 2000 then x + 8 else x - 2092
/-- the class's steps, by the reference's rows -/
def PCp (h : aH) (p : Nat) (K : Nat → Nat → Nat) (N : Nat) : Prop := h.2.1 p 6 = nI (sgK K N) ∧ ∀ r, r < N → clB K r = false → h.2.1 (p + 1) (sgK K r) = nI (wkN (K r 0)) ∧ (K r 0 ≠ 19 → K r 0 ≠ 20 → h.2.1 (p + 2) (sgK K r) = nI (K r 1)) ∧ (K r 0 = 20 → h.2.1 (p + 2) (sgK K r) = nI (K r 2)) ∧ (K r 0 = 17 → h.2.1 (p + 3) (sgK K r) = nI (K r 2)) ∧ (2100 ≤ K r 0 → r < K r 3 → h.2.1 (p + 4) (sgK K r) = nI (sgK K (K r 3)))
/-- the class's open whens -/
def POp (h : aH) (p : Nat) (K : Nat → Nat → Nat) (dp : Nat) (op : Nat → Nat) : Prop := h.2.1 p 5 = nI dp ∧ h.2.1 p 7 = nI 1 ∧ ∀ e, e < dp → h.2.1 (p + 5) e = nI (sgK K (op e))
/-- the rows that were read: N of them; dp whens are open, their rows op -/
def PVp (C : Nat → Nat) (K : Nat → Nat → Nat) (N dp : Nat) (op : Nat → Nat) : Prop := sgK K N ≤ 30 ∧ dp ≤ 3 ∧ N + dp ≤ 2 * sgK K N ∧ (∀ r, r < N → clB K r = false → (K r 0 = 17 ∧ K r 1 < C 3 ∧ K r 2 < C 2) ∨ (K r 0 = 18 ∧ K r 1 < C 3) ∨ K r 0 = 19 ∨ (K r 0 = 20 ∧ K r 2 < C 2) ∨ (∃ x, x < 4 ∧ K r 0 = 2122 + x ∧ (x < 3 → K r 1 < C 2) ∧ K r 1 ≤ 256 ∧ ((∃ e, e < dp ∧ op e = r ∧ K r 3 = 0) ∨ (r < K r 3 ∧ K r 3 < N ∧ clB K (K r 3) = true)))) ∧ ∀ e, e < dp → op e < N ∧ clB K (op e) = false ∧ 2100 ≤ K (op e) 0 ∧ ∀ e', e' < e → op e' < op e
/-- the class, within a plan's text; h0 is where it began -/
def MCp (h0 h : aH) (p c : Nat) (T : Nat → Nat) (n m i : Nat) (C : Nat → Nat) (V : Nat → List Nat) (K : Nat → Nat → Nat) (N dp : Nat) (op : Nat → Nat) : Prop := FR h0 h [4, p, p + 1, p + 2, p + 3, p + 4, p + 5] [4] [] [] ∧ LC h T n m i ∧ CS h c ∧ NCl h c C V ∧ PCp h p K N ∧ POp h p K dp op
/-- the reference -/
def MRp (k0 k : aH) (T : Nat → Nat) (n i : Nat) (C : Nat → Nat) (V : Nat → List Nat) (K : Nat → Nat → Nat) (N dp : Nat) (op : Nat → Nat) : Prop := (FR k0 k [114, 125] [] [] [13, 14, 15, 16, 18, 19, 21, 29, 30] ∧ ∀ x, x < 1607 → k.2.1 114 x = k0.2.1 114 x) ∧ RC k T n i ∧ NRe k 0 C V ∧ (k.2.1 114 3 = nI (C 2) ∧ k.2.1 114 4 = nI (C 3)) ∧ (k.2.1 113 29 = nI dp ∧ k.2.1 113 30 = nI (sgK K N) ∧ k.2.1 114 1607 = nI N) ∧ (∀ r j, r < N → j < 4 → k.2.1 114 (1748 + 4 * r + j) = nI (K r j)) ∧ ∀ e, e < dp → k.2.1 125 e = nI (op e)
/-- a row more -/
def rwK (K : Nat → Nat → Nat) (N a b c d : Nat) : Nat → Nat → Nat := fun r j => if r = N then (if j = 0 then a else if j = 1 then b else if j = 2 then c else d) else K r j
theorem rw_lt {K : Nat → Nat → Nat} {N a b c d r : Nat} (h : r ≠ N) : rwK K N a b c d r = K r := by
  funext j
  exact if_neg h
theorem rw_N {K : Nat → Nat → Nat} {N a b c d : Nat} : rwK K N a b c d N 0 = a ∧ rwK K N a b c d N 1 = b ∧ rwK K N a b c d N 2 = c ∧ rwK K N a b c d N 3 = d := by
  unfold rwK
  simp
theorem cl_c {K K' : Nat → Nat → Nat} {r : Nat} (h : K' r 0 = K r 0) : clB K' r = clB K r := by
  unfold clB
  rw [h]
theorem sg_c2 {K K' : Nat → Nat → Nat} {N : Nat} (h : ∀ r, r < N → K' r 0 = K r 0) : ∀ r, r ≤ N → sgK K' r = sgK K r := fun r hr => cntB_congr (fun i hi => by rw [cl_c (h i (by omega))])
theorem rw_sg {K : Nat → Nat → Nat} {N a b c d r : Nat} (h : r ≤ N) : sgK (rwK K N a b c d) r = sgK K r := sg_c2 (N := N) (fun i hi => by rw [rw_lt (by omega)]) r h
theorem rw_cl {K : Nat → Nat → Nat} {N a b c d r : Nat} (h : r ≠ N) : clB (rwK K N a b c d) r = clB K r := cl_c (by rw [rw_lt h])
theorem rw_clN {K : Nat → Nat → Nat} {N a b c d : Nat} (h : a ≠ 26) : clB (rwK K N a b c d) N = false := by
  unfold clB
  rw [rw_N.1]
  exact beq_eq_false_iff_ne.mpr h
theorem rw_sg1 {K : Nat → Nat → Nat} {N a b c d : Nat} (h : a ≠ 26) : sgK (rwK K N a b c d) (N + 1) = sgK K N + 1 := by rw [sg_t (rw_clN h), rw_sg (Nat.le_refl N)]
theorem sg_mono {K : Nat → Nat → Nat} {a b : Nat} (h : a ≤ b) : sgK K a ≤ sgK K b := cntB_mono h
theorem sgk_lt {K : Nat → Nat → Nat} {r N : Nat} (h : r < N) (hc : clB K r = false) : sgK K r < sgK K N := by
  have h1 := sg_t hc
  have h2 := sg_mono (K := K) (a := r + 1) (b := N) h
  omega
