/-! ===== cases: questions ===== -/
def DCm (h0 h : aH) (c : Nat) (T : Nat → Nat) (n m i : Nat) (A C : Nat → Nat) (V : Nat → List Nat) (Bv : Nat → Nat) (Q : Nat → Nat → Bool) : Prop := FR h0 h (LCc c) (LJc c) [] [] ∧ LC h T n m i ∧ CS h c ∧ h.2.2.2 42 6 = some c ∧ NCl h c C V ∧ DCa h c A ∧ (∀ v, v < 24 → h.2.1 48 v = nI (Bv v)) ∧ ((A 3 = 0 ∧ h.2.1 42 7 = nI 0) ∨ (0 < A 3 ∧ h.2.1 42 7 = nI 1 ∧ DWo h c A Bv Q))
def DCw (h0 h : aH) (c : Nat) (T : Nat → Nat) (n m i : Nat) (A C : Nat → Nat) (V : Nat → List Nat) (Bv : Nat → Nat) (Q : Nat → Nat → Bool) : Prop := FR h0 h (LCc c) (LJc c) [] [] ∧ LC h T n m i ∧ CS h c ∧ h.2.2.2 42 6 = some c ∧ NCl h c C V ∧ DCa h c A ∧ (∀ v, v < 24 → h.2.1 48 v = nI (Bv v)) ∧ h.2.1 42 7 = nI 1 ∧ DWo h c A Bv Q
theorem dc_m {h0 h : aH} {c : Nat} {T : Nat → Nat} {n m i : Nat} {A : Nat → Nat} {V : Nat → List Nat} {Bv : Nat → Nat} {Q : Nat → Nat → Bool} (d : DC h0 h c T n m i A V Bv Q) : DCm h0 h c T n m i A (cA A) V Bv Q := d
theorem dca_k {h h' : aH} {c : Nat} {A : Nat → Nat} (e : ∀ j, j ∈ [0, 5, 7, 8, 11, 12, 13, 14] → h'.2.1 (c + j) = h.2.1 (c + j)) (d : DCa h c A) : DCa h' c A := by
  have e0 := e 0 (by decide)
  rw [Nat.add_zero] at e0
  unfold DCa
  rw [e0, e 5 (by decide), e 7 (by decide), e 8 (by decide), e 11 (by decide), e 12 (by decide), e 13 (by decide), e 14 (by decide)]
  exact d
theorem dwo_k {h h' : aH} {c : Nat} {A Bv : Nat → Nat} {Q : Nat → Nat → Bool} (e : ∀ j, j ∈ [0, 6, 9, 10] → h'.2.1 (c + j) = h.2.1 (c + j)) (e50 : h'.2.2.1 50 = h.2.2.1 50) (e49 : h'.2.2.1 49 = h.2.2.1 49) (d : DWo h c A Bv Q) : DWo h' c A Bv Q := by
  have e0 := e 0 (by decide)
  rw [Nat.add_zero] at e0
  unfold DWo
  rw [e0, e 6 (by decide), e 9 (by decide), e 10 (by decide), e50, e49]
  exact d
/-- lexer and names moved -/
theorem dcm_nm {h0 h h' : aH} {c : Nat} {T : Nat → Nat} {n m i i' : Nat} {A C C' : Nat → Nat} {V V' : Nat → List Nat} {Bv : Nat → Nat} {Q : Nat → Nat → Bool} (d : DCm h0 h c T n m i A C V Bv Q) (f : FR h h' [4, c + 1, c + 3, c + 4] [4, c + 2] [] []) (lc : LC h' T n m i') (nc : NCl h' c C' V') : DCm h0 h' c T n m i' A C' V' Bv Q := by
  obtain ⟨d1, d2, d3, d4, d5, d6, d7, d8⟩ := d
  have c0 := d3.1
  have ec : ∀ j, j < 16 → j ≠ 1 → j ≠ 3 → j ≠ 4 → h'.2.1 (c + j) = h.2.1 (c + j) := fun j hj j1 j3 j4 => f.I _ (by simp <;> omega) (by omega) (by omega)
  refine ⟨d1.tr (f.mono (by intro x hx; unfold LCc; simp at hx ⊢; omega) (by intro x hx; unfold LJc; simp at hx ⊢; omega) (by simp) (by simp)), lc, cs_fr f d3, by rw [f.2.1]; exact d4, nc, dca_k (fun j hj => ec j (by simp at hj; omega) (by simp at hj; omega) (by simp at hj; omega) (by simp at hj; omega)) d6, ?_, ?_⟩
  · rw [f.I 48 (by simp <;> omega) (by decide) (by decide)]
    exact d7
  · rw [f.I 42 (by simp <;> omega) (by decide) (by decide)]
    rcases d8 with d8 | ⟨y1, y2, y3⟩
    · exact Or.inl d8
    · exact Or.inr ⟨y1, y2, dwo_k (fun j hj => ec j (by simp at hj; omega) (by simp at hj; omega) (by simp at hj; omega) (by simp at hj; omega)) (f.J 50 (by simp <;> omega)) (f.J 49 (by simp <;> omega)) y3⟩
theorem dcm_4 {h0 h h' : aH} {c : Nat} {T : Nat → Nat} {n m i i' : Nat} {A C : Nat → Nat} {V : Nat → List Nat} {Bv : Nat → Nat} {Q : Nat → Nat → Bool} (d : DCm h0 h c T n m i A C V Bv Q) (f : FR h h' [4] [4] [] []) (lc : LC h' T n m i') : DCm h0 h' c T n m i' A C V Bv Q := by
  have c0 := d.2.2.1.1
  exact dcm_nm d (f.mono (by simp) (by simp) (by simp) (by simp)) lc (nc_fr f d.2.2.1 (by simp <;> omega) (by simp <;> omega) (by simp <;> omega) (by simp <;> omega) d.2.2.2.2.1)
theorem dcm_fl {h0 h h' : aH} {c : Nat} {T : Nat → Nat} {n m i : Nat} {A C : Nat → Nat} {V : Nat → List Nat} {Bv : Nat → Nat} {Q : Nat → Nat → Bool} (d : DCm h0 h c T n m i A C V Bv Q) {f q : Nat} (f0 : f ≠ 0) (f9 : f < 100) (fr : FR h h' [4] [4] [] []) (fl : FL h' f q) {x : Option (Int32 × aH)} (e : x = some (nI 0, h')) : OCc h0 c T n m x (.inl (f, q)) := ⟨f0, f9, h', e, d.1.tr (fr.mono lcc_4 ljc_4 (by simp) (by simp)), fl⟩
/-- the worlds are made, if they weren't -/
theorem x_mk {h0 h : aH} {c : Nat} {T : Nat → Nat} {n m i : Nat} {A C : Nat → Nat} {V : Nat → List Nat} {Bv : Nat → Nat} {Q : Nat → Nat → Bool} (d : DCm h0 h c T n m i A C V Bv Q) (wf : WF A) (vf : VFa A) (a2 : A 2 = stM A (A 0) (A 0)) (bb : ∀ v, v < 24 → Bv v < 2 ^ 24) : ∃ h', f_X2_makeWorldsOnce h 42 = some h' ∧ DCw h0 h' c T n m i A C V Bv Q := by
  obtain ⟨d1, d2, d3, d4, d5, d6, d7, d8⟩ := d
  have hl := d2.1
  have c0 := d3.1
  rcases d8 with ⟨y1, y2⟩ | ⟨y1, y2, y3⟩
  · obtain ⟨⟨g12, g13, g14, g16, g17, g18⟩, gf, gv, gq, gw⟩ := id d6
    obtain ⟨h', e, f, w1, w2, w7, w3, w4, w5, w6, w8⟩ := x_once (Bv := Bv) hl d3 d4 y2 wf vf a2 g12 gf (fun v hv => (gv v hv).2) d7 bb
    have ec : ∀ j, j < 16 → j ≠ 0 → j ≠ 6 → j ≠ 9 → j ≠ 10 → h'.2.1 (c + j) = h.2.1 (c + j) := fun j hj j1 j3 j4 j5 => f.I _ (by simp <;> omega) (by omega) (by omega)
    refine ⟨h', e, d1.tr (f.mono (by intro x hx; unfold LCc; simp at hx ⊢; omega) (by intro x hx; unfold LJc; simp at hx ⊢; omega) (by simp) (by simp)), lc_fr f (by intro x hx; simp at hx; omega) (by intro x hx; simp at hx; omega) d2, cs_fr f d3, by rw [f.2.1]; exact d4, nc_fr f d3 (by simp <;> omega) (by simp <;> omega) (by simp <;> omega) (by simp <;> omega) d5, ?_, ?_, w7, w3, w4, fun w hw => ⟨(w5 w hw).1, ?_⟩, fun w hw => ?_, fun v w hv hw => w8 v w hv hw⟩
    · unfold DCa
      rw [ec 5 (by decide) (by decide) (by decide) (by decide) (by decide), ec 7 (by decide) (by decide) (by decide) (by decide) (by decide), ec 8 (by decide) (by decide) (by decide) (by decide) (by decide), ec 11 (by decide) (by decide) (by decide) (by decide) (by decide), ec 12 (by decide) (by decide) (by decide) (by decide) (by decide), ec 13 (by decide) (by decide) (by decide) (by decide) (by decide), ec 14 (by decide) (by decide) (by decide) (by decide) (by decide), w1 12 (by decide) (by decide), w1 13 (by decide) (by decide), w1 16 (by decide) (by decide), w1 17 (by decide) (by decide), w1 18 (by decide) (by decide)]
      exact ⟨⟨g12, g13, w2, g16, g17, g18⟩, gf, gv, gq, gw⟩
    · rw [f.I 48 (by simp <;> omega) (by decide) (by decide)]
      exact d7
    · rw [(w5 w hw).2, y1]
      rfl
    · have := w6 w hw
      unfold rBit at this
      rw [Nat.zero_add] at this
      exact this
  · exact ⟨h, by simp (disch := first | assumption | omega | decide | ((repeat first | apply lyI | apply lyJ | apply lywI | apply lywJ | apply csI | apply csJ | apply cswI | apply cswJ); assumption)) only [f_X2_makeWorldsOnce, SR, LI, ↓li_m1, nI_add, pk_mul, nn_sub, nn_m1, nn_div, nn_rem, nn_nz, nn_mod, nJ_l, lN_add, lN_mul, nn_tb1, nI_bt, nn_and, nn_or, nn_xor, nn_shr, nn_1shl, nn_31, il_p, il_n, it_p, it_n, ie_p, ie_n, ie_b, ie_b1, ie_m, ie_mm, it_m, it_m0, il_m0, bI_rZ, Option.bind_some, bd2_some, Nat.add_zero, Nat.zero_add, if_true, if_false, Bool.false_eq_true, eq_self, hI_R, hJ_R, ng_t, ng_e, y2], d1, d2, d3, d4, d5, d6, d7, y2, y3⟩
/-- a question more -/
def qA (A : Nat → Nat) (fe : Nat) : Nat → Nat := fun y => if y = 3 then A 3 + 1 else if y = 64 + A 3 then fe else A y
def fA (A : Nat → Nat) (fe : Nat) : Nat → Nat := fun y => if y = 64 + A 3 then fe else A y
theorem qa_3 {A : Nat → Nat} {fe : Nat} : qA A fe 3 = A 3 + 1 := if_pos rfl
theorem qa_f {A : Nat → Nat} {fe : Nat} : qA A fe (64 + A 3) = fe := by
  unfold qA
  rw [if_neg (by omega), if_pos rfl]
theorem qa_n {A : Nat → Nat} {fe x : Nat} (h3 : x ≠ 3) (hf : x ≠ 64 + A 3) : qA A fe x = A x := by
  unfold qA
  rw [if_neg h3, if_neg hf]
theorem qa_ag {A : Nat → Nat} {fe : Nat} : AGn A (qA A fe) := fun x hx h3 => qa_n (by omega) (by omega)
theorem qa_cA {A : Nat → Nat} {fe : Nat} : cA (qA A fe) = upC (cA A) 2 := by
  funext s
  unfold cA upC
  by_cases h0 : s = 0
  · subst h0
    rw [if_pos rfl, if_neg (by decide)]
    exact qa_n (by decide) (by omega)
  · rw [if_neg h0]
    by_cases h1 : s = 1
    · subst h1
      rw [if_pos rfl, if_neg (by decide)]
      exact qa_n (by decide) (by omega)
    · rw [if_neg h1]
      by_cases h2 : s = 2
      · subst h2
        rw [if_pos rfl, if_pos rfl]
        exact qa_3
      · rw [if_neg h2, if_neg h2]
        show qA A fe 4 = (if s = 0 then A 0 else if s = 1 then A 1 else if s = 2 then A 3 else A 4)
        rw [if_neg h0, if_neg h1, if_neg h2]
        exact qa_n (by decide) (by omega)
theorem qa_wf {A : Nat → Nat} {fe : Nat} (wf : WF A) (q12 : A 3 < 12) (f99 : fe ≤ 99) : WF (qA A fe) := by
  obtain ⟨w1, w2, w3⟩ := ag_wff (qa_ag (fe := fe)) wf
  refine ⟨w1, by rw [qa_3]; omega, by rw [qa_n (by decide) (by omega)]; exact wf.2.2.1, w3, fun q hq => ?_, fun v hv => ?_⟩
  · rw [qa_3] at hq
    by_cases e : q = A 3
    · rw [e, qa_f]
      exact f99
    · rw [qa_n (by omega) (by omega)]
      exact wf.2.2.2.2.1 q (by omega)
  · rw [qa_n (by decide) (by omega)] at hv
    have w := wf.2.2.2.2.2 v hv
    have e : ∀ k, k < 6 → qA A fe (76 + 6 * v + k) = A (76 + 6 * v + k) := fun k hk => qa_n (by omega) (by omega)
    refine ⟨fun k hk => by rw [e k (by omega)]; exact w.1 k hk, ?_, by rw [e 4 (by decide)]; exact w.2.2.1, by rw [e 5 (by decide)]; exact w.2.2.2⟩
    show 0 + qA A fe (76 + 6 * v + 0) + qA A fe (76 + 6 * v + 1) + qA A fe (76 + 6 * v + 2) + qA A fe (76 + 6 * v + 3) = 16
    rw [e 0 (by decide), e 1 (by decide), e 2 (by decide), e 3 (by decide)]
    exact w.2.1
def qQ (A Bv : Nat → Nat) (Q : Nat → Nat → Bool) (S : WS) : Nat → Nat → Bool := fun q w => if q = A 3 then (cnP A Bv w && S w) else Q q w
def qV (T : Nat → Nat) (n i : Nat) (A : Nat → Nat) (V : Nat → List Nat) : Nat → List Nat := upV V (nbN 2 + cA A 2) (wdI T n i)
/-- what a question is read as -/
def qO (T : Nat → Nat) (n i : Nat) (A : Nat → Nat) (V : Nat → List Nat) (Bv : Nat → Nat) (Q : Nat → Nat → Bool) : OD :=
  if A 3 = 12 then .inl (6, frI T n i)
  else if nwB T n (i + 1) (cA A) V = false then .inl (nmF T n (i + 1), frI T n (i + 1))
  else if tcI T n (i + 2) ≠ 12 then .inl (fkN T n (i + 2) 2, frI T n (i + 2))
  else if ¬ (tcI T n (i + 3) = 2 ∧ 0 ≤ nuI T n (i + 3) ∧ nuI T n (i + 3) ≤ 99) then .inl (fkN T n (i + 3) (if tcI T n (i + 3) = 2 then 4 else 2), frI T n (i + 3))
  else if tcI T n (i + 4) ≠ 13 then .inl (fkN T n (i + 4) 2, frI T n (i + 4))
  else match pEi T n (pOn T n (qA A (nuI T n (i + 3))) (cA (qA A (nuI T n (i + 3)))) (qV T n (i + 1) A V) 8 0) (i + 5) with
    | .inl e => .inl e
    | .inr (i', S) => smD T n i' (qA A (nuI T n (i + 3))) (qV T n (i + 1) A V) Bv (qQ A Bv Q S)
theorem clo_t {T : Nat → Nat} {n : Nat} {A C : Nat → Nat} {V : Nat → List Nat} {r : CR} : CLO T n A C V r (fun _ _ _ _ _ => True) := ⟨fun _ _ _ _ _ _ _ => ⟨fun _ _ => trivial, fun _ _ => trivial⟩, fun _ _ _ _ _ => trivial, fun _ _ _ _ _ _ _ _ => trivial, fun _ _ _ _ _ _ _ _ _ _ _ => trivial, fun _ _ _ _ _ _ => trivial, fun _ _ _ _ _ _ => trivial, fun _ _ _ _ _ _ _ => trivial, fun _ _ _ _ _ _ => trivial, fun _ _ _ _ _ _ _ _ _ => trivial, fun _ _ _ _ _ _ _ => trivial, fun _ _ _ _ _ _ => trivial, fun _ _ _ _ _ _ _ _ => trivial, fun _ _ _ _ _ _ _ _ => trivial, fun _ _ _ _ _ _ _ _ _ _ => trivial, fun _ _ _ _ _ _ _ => ⟨fun _ _ _ => trivial, fun _ _ => trivial⟩, fun _ _ _ _ _ _ _ _ _ => trivial, fun _ _ _ _ => trivial⟩
theorem pe_lt {T : Nat → Nat} {n m : Nat} {A C : Nat → Nat} {V : Nat → List Nat} (hm : m ≤ 900) (ht : ∀ i, i ≤ m → 2 ≤ tcI T n i → i < m) {i i' : Nat} {S : WS} (hi : i ≤ m) (e : pEi T n (pOn T n A C V 8 0) i = .inr (i', S)) : i < i' ∧ i' ≤ m := by
  have o := b_either (A := A) (C := C) (V := V) (G := fun _ _ _ _ _ => True) (r := .inl (0, 0)) clo_t hm ht (by decide) (b_one (A := A) (C := C) (V := V) clo_t hm ht 8 0 (by decide) (by decide)) i [] [] hi (by decide) (by decide) (by decide) (by decide) (by decide)
  obtain ⟨o1, o2, -⟩ := o.2 i' S e
  exact ⟨o1, o2⟩
theorem lx_t {h : aH} {T : Nat → Nat} {n m i : Nat} (lc : LC h T n m i) : m ≤ 900 ∧ ∀ i, i ≤ m → 2 ≤ tcI T n i → i < m := ⟨lc.2.1.1.1, fun i hi h2 => by
  have := lc.2.1.1.2.2.1
  rcases Nat.lt_or_ge i m with u | u
  · exact u
  · have e : i = m := by omega
    subst e
    omega⟩
theorem j_bit0 {x : Int64} {k : Nat} (hk : k < 64) : ((x >>> ((nI k).toInt64 &&& 63)) &&& 1 = 0) ↔ x.toBitVec.getLsbD k = false := by
  rw [← Int64.toBitVec_inj]
  have e1 : ((x >>> ((nI k).toInt64 &&& 63)) &&& 1).toBitVec = (x.toBitVec.sshiftRight k) &&& 1#64 := by
    rw [Int64.toBitVec_and, Int64.toBitVec_shiftRight, BitVec.sshiftRight', j_sm k hk]
    rfl
  rw [e1, show (0 : Int64).toBitVec = 0#64 from rfl]
  constructor
  · intro h
    have := congrArg (fun b => b.getLsbD 0) h
    simp only [BitVec.getLsbD_and, BitVec.getLsbD_sshiftRight] at this
    simpa [hk] using this
  · intro h
    apply BitVec.eq_of_getLsbD_eq
    intro i hi
    rw [BitVec.getLsbD_and, BitVec.getLsbD_sshiftRight]
    by_cases h0 : i = 0
    · subst h0
      have h' : x.toBitVec[k] = false := by
        rw [← BitVec.getLsbD_eq_getElem]
        exact h
      simp [hk, h']
    · simp [BitVec.getLsbD_one, h0]
