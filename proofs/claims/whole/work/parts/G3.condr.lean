/-! ===== conditions: the reference's stack ===== -/
def ZLp (k : aH) (P : Nat → Bool) : List WS → Prop
  | [] => True
  | X :: Z => (∀ w, w < 256 → P w = true → (k.2.2.1 123 (4 * Z.length + w / 64)).toBitVec.getLsbD (w % 64) = X w) ∧ ZLp k P Z
def DLp (k : aH) : List Nat → Prop
  | [] => True
  | x :: D => (k.2.1 124 D.length = nI x ∧ (x = 10 ∨ x = 11 ∨ x = 12 ∨ x = 40)) ∧ DLp k D
theorem zl_c {k k' : aH} {P : Nat → Bool} : ∀ {Z : List WS}, (∀ x, x < 4 * Z.length → k'.2.2.1 123 x = k.2.2.1 123 x) → ZLp k P Z → ZLp k' P Z
  | [], _, _ => trivial
  | X :: Z, h, z => by
    have hl : (X :: Z).length = Z.length + 1 := rfl
    refine ⟨fun w hw hp => ?_, zl_c (fun x hx => h x (by omega)) z.2⟩
    rw [h _ (by omega)]
    exact z.1 w hw hp
theorem dl_c {k k' : aH} : ∀ {D : List Nat}, (∀ x, x < D.length → k'.2.1 124 x = k.2.1 124 x) → DLp k D → DLp k' D
  | [], _, _ => trivial
  | x :: D, h, d => by
    have hl : (x :: D).length = D.length + 1 := rfl
    refine ⟨⟨?_, d.1.2⟩, dl_c (fun y hy => h y (by omega)) d.2⟩
    rw [h _ (by omega)]
    exact d.1.1
def RSt (k0 k : aH) (T : Nat → Nat) (n i : Nat) (P : Nat → Bool) (Z : List WS) (D : List Nat) (w : Nat) : Prop := FR k0 k [124] [123] [] F22 ∧ RC k T n i ∧ (k.2.1 113 25 = nI Z.length ∧ k.2.1 113 26 = nI D.length ∧ k.2.1 113 27 = nI w) ∧ ZLp k P Z ∧ DLp k D ∧ Z.length ≤ 52 ∧ D.length ≤ 52 ∧ w ≤ 6
theorem f13_22 : ∀ x ∈ F13, x ∈ F22 := by decide
theorem rs_13 {k0 k k' : aH} {T : Nat → Nat} {n i i' : Nat} {P : Nat → Bool} {Z : List WS} {D : List Nat} {w : Nat} (rs : RSt k0 k T n i P Z D w) (f : FR k k' [] [] [] F13) (rc : RC k' T n i') : RSt k0 k' T n i' P Z D w := by
  obtain ⟨r1, r2, ⟨r3, r4, r5⟩, r6, r7, r8⟩ := rs
  exact ⟨r1.tr (f.mono (by decide) (by decide) (by decide) f13_22), rc, ⟨(f.2.2.2.2.2 25 (by decide)).trans r3, (f.2.2.2.2.2 26 (by decide)).trans r4, (f.2.2.2.2.2 27 (by decide)).trans r5⟩, zl_c (fun x _ => by rw [f.J 123 (by decide)]) r6, dl_c (fun x _ => by rw [f.I 124 (by decide) (by decide) (by decide)]) r7, r8⟩
theorem r_doing {k : aH} (kl : LAY k) {D : List Nat} (dl : DLp k D) (e26 : k.2.1 113 26 = nI D.length) (d52 : D.length ≤ 52) {x : Nat} (hx : x < 100) : f_X12_isDoing k 113 (nI x) = some (bI (decide (D.head? = some x))) := by
  cases D with
  | nil =>
    have e26' : k.2.1 113 26 = nI 0 := e26
    rw [decide_eq_false (by simp), bI_f]
    simp (disch := first | assumption | omega | decide | ((repeat first | apply lyI | apply lyJ | apply lywI | apply lywJ | apply csI | apply csJ | apply cswI | apply cswJ); assumption)) only [f_X12_isDoing, SM, LI, ↓li_m1, nI_add, pk_mul, nn_sub, nn_m1, nn_div, nn_rem, nn_nz, nn_mod, nJ_l, lN_add, lN_mul, nn_tb1, nI_bt, nn_and, nn_or, nn_xor, nn_shr, nn_1shl, nn_31, il_p, il_n, it_p, it_n, ie_p, ie_n, ie_b, ie_b1, ie_m, ie_mm, it_m, it_m0, il_m0, bI_rZ, Option.bind_some, bd2_some, Nat.add_zero, Nat.zero_add, if_true, if_false, Bool.false_eq_true, eq_self, hI_R, hJ_R, ng_t, ng_e, e26']
  | cons y D =>
    have hl : (y :: D).length = D.length + 1 := rfl
    rw [hl] at e26 d52
    have ey := dl.1.1
    have yb : y < 100 := by
      rcases dl.1.2 with e | e | e | e <;> omega
    by_cases hyx : y = x
    · subst hyx
      rw [decide_eq_true (show (y :: D).head? = some y from rfl), bI_t]
      simp (disch := first | assumption | omega | decide | ((repeat first | apply lyI | apply lyJ | apply lywI | apply lywJ | apply csI | apply csJ | apply cswI | apply cswJ); assumption)) only [f_X12_isDoing, SM, LI, ↓li_m1, nI_add, pk_mul, nn_sub, nn_m1, nn_div, nn_rem, nn_nz, nn_mod, nJ_l, lN_add, lN_mul, nn_tb1, nI_bt, nn_and, nn_or, nn_xor, nn_shr, nn_1shl, nn_31, il_p, il_n, it_p, it_n, ie_p, ie_n, ie_b, ie_b1, ie_m, ie_mm, it_m, it_m0, il_m0, bI_rZ, Option.bind_some, bd2_some, Nat.add_zero, Nat.zero_add, if_true, if_false, Bool.false_eq_true, eq_self, hI_R, hJ_R, ng_t, ng_e, e26, Nat.add_sub_cancel, ey]
    · rw [decide_eq_false (hd_n hyx), bI_f]
      have ne : ¬ nI y = nI x := d_ne (by omega) (by omega) hyx
      simp (disch := first | assumption | omega | decide | ((repeat first | apply lyI | apply lyJ | apply lywI | apply lywJ | apply csI | apply csJ | apply cswI | apply cswJ); assumption)) only [f_X12_isDoing, SM, LI, ↓li_m1, nI_add, pk_mul, nn_sub, nn_m1, nn_div, nn_rem, nn_nz, nn_mod, nJ_l, lN_add, lN_mul, nn_tb1, nI_bt, nn_and, nn_or, nn_xor, nn_shr, nn_1shl, nn_31, il_p, il_n, it_p, it_n, ie_p, ie_n, ie_b, ie_b1, ie_m, ie_mm, it_m, it_m0, il_m0, bI_rZ, Option.bind_some, bd2_some, Nat.add_zero, Nat.zero_add, if_true, if_false, Bool.false_eq_true, eq_self, hI_R, hJ_R, ng_t, ng_e, e26, Nat.add_sub_cancel, ey, if_neg ne]
theorem r_does {k : aH} (kl : LAY k) {L x : Nat} (e26 : k.2.1 113 26 = nI L) (hL : L < 100) : f_X12_does k 113 (nI x) = some (hI (hI k 124 L (nI x)) 113 26 (nI (L + 1))) := by
  simp (disch := first | assumption | omega | decide | ((repeat first | apply lyI | apply lyJ | apply lywI | apply lywJ | apply csI | apply csJ | apply cswI | apply cswJ); assumption)) only [f_X12_does, SM, rI_eq, rI_ne, rI_nk, rJ_eq, rJ_ne, rJ_nk, rI_J, rJ_I, LI, ↓li_m1, nI_add, pk_mul, nn_sub, nn_m1, nn_div, nn_rem, nn_nz, nn_mod, nJ_l, lN_add, lN_mul, nn_tb1, nI_bt, nn_and, nn_or, nn_xor, nn_shr, nn_1shl, nn_31, il_p, il_n, it_p, it_n, ie_p, ie_n, ie_b, ie_b1, ie_m, ie_mm, it_m, it_m0, il_m0, bI_rZ, Option.bind_some, bd2_some, Nat.add_zero, Nat.zero_add, if_true, if_false, Bool.false_eq_true, eq_self, hI_R, hJ_R, ng_t, ng_e, e26]
def dAt : List Nat → Nat → Nat
  | [], _ => 0
  | x :: D, j => if j = D.length then x else dAt D j
theorem dl_at {k : aH} : ∀ {D : List Nat}, DLp k D → ∀ j, j < D.length → k.2.1 124 j = nI (dAt D j) ∧ dAt D j < 100
  | [], _, j, hj => absurd hj (by simp)
  | x :: D, d, j, hj => by
    have hl : (x :: D).length = D.length + 1 := rfl
    by_cases e : j = D.length
    · subst e
      rw [show dAt (x :: D) D.length = x from if_pos rfl]
      exact ⟨d.1.1, by rcases d.1.2 with e | e | e | e <;> omega⟩
    · rw [show dAt (x :: D) j = dAt D j from if_neg e]
      exact dl_at d.2 j (by omega)
theorem da_mem : ∀ {D : List Nat} {y : Nat}, y ∈ D ↔ ∃ j, j < D.length ∧ dAt D j = y
  | [], y => by simp
  | x :: D, y => by
    have hl : (x :: D).length = D.length + 1 := rfl
    rw [List.mem_cons, da_mem (D := D)]
    constructor
    · rintro (rfl | ⟨j, h1, h2⟩)
      · exact ⟨D.length, by omega, if_pos rfl⟩
      · exact ⟨j, by omega, by rw [show dAt (x :: D) j = dAt D j from if_neg (by omega)]; exact h2⟩
    · rintro ⟨j, h1, h2⟩
      by_cases e : j = D.length
      · subst e
        rw [show dAt (x :: D) D.length = x from if_pos rfl] at h2
        exact Or.inl h2.symm
      · rw [show dAt (x :: D) j = dAt D j from if_neg e] at h2
        exact Or.inr ⟨j, by omega, h2⟩
theorem r_open {k : aH} (kl : LAY k) {D : List Nat} (dl : DLp k D) (e26 : k.2.1 113 26 = nI D.length) (d52 : D.length ≤ 52) : f_X12_isOpen k 113 = some (bI (decide (40 ∈ D))) := by
  have at' := dl_at dl
  have := srch (body := fun q : Int32 => f_X12_isOpen_b2 k 113 q) (s := nI 0) (fun j => nI j) (fun j => dAt D j == 40) D.length (fun _ => (Sum.inl () : Unit ⊕ Unit)) (Sum.inr ()) rfl (by omega) (fun j hj hx => ?_) (fun j hj hx => ?_) ?_
  · have e : f_X12_isOpen_l2 k 113 (nI 0) = _ := this
    by_cases hm : 40 ∈ D
    · obtain ⟨j, h1, h2⟩ := da_mem.mp hm
      rw [decide_eq_true hm, bI_t]
      cases hf : firstB (fun j => dAt D j == 40) D.length with
      | none =>
        have := firstB_n.mp hf j h1
        rw [h2] at this
        exact absurd this (by decide)
      | some j' =>
        rw [hf] at e
        simp (disch := first | assumption | omega | decide | ((repeat first | apply lyI | apply lyJ | apply lywI | apply lywJ | apply csI | apply csJ | apply cswI | apply cswJ); assumption)) only [f_X12_isOpen, LI, ↓li_m1, nI_add, pk_mul, nn_sub, nn_m1, nn_div, nn_rem, nn_nz, nn_mod, nJ_l, lN_add, lN_mul, nn_tb1, nI_bt, nn_and, nn_or, nn_xor, nn_shr, nn_1shl, nn_31, il_p, il_n, it_p, it_n, ie_p, ie_n, ie_b, ie_b1, ie_m, ie_mm, it_m, it_m0, il_m0, bI_rZ, Option.bind_some, bd2_some, Nat.add_zero, Nat.zero_add, if_true, if_false, Bool.false_eq_true, eq_self, hI_R, hJ_R, ng_t, ng_e, e]
    · rw [decide_eq_false hm, bI_f]
      cases hf : firstB (fun j => dAt D j == 40) D.length with
      | none =>
        rw [hf] at e
        simp (disch := first | assumption | omega | decide | ((repeat first | apply lyI | apply lyJ | apply lywI | apply lywJ | apply csI | apply csJ | apply cswI | apply cswJ); assumption)) only [f_X12_isOpen, LI, ↓li_m1, nI_add, pk_mul, nn_sub, nn_m1, nn_div, nn_rem, nn_nz, nn_mod, nJ_l, lN_add, lN_mul, nn_tb1, nI_bt, nn_and, nn_or, nn_xor, nn_shr, nn_1shl, nn_31, il_p, il_n, it_p, it_n, ie_p, ie_n, ie_b, ie_b1, ie_m, ie_mm, it_m, it_m0, il_m0, bI_rZ, Option.bind_some, bd2_some, Nat.add_zero, Nat.zero_add, if_true, if_false, Bool.false_eq_true, eq_self, hI_R, hJ_R, ng_t, ng_e, e]
      | some j' =>
        obtain ⟨h1, h2, -⟩ := firstB_s.mp hf
        exact absurd (da_mem.mpr ⟨j', h1, beq_iff_eq.mp h2⟩) hm
  · obtain ⟨y1, y2⟩ := at' j hj
    have ne : ¬ nI (dAt D j) = nI 40 := d_ne (by omega) (by decide) (by simpa using hx)
    simp (disch := first | assumption | omega | decide | ((repeat first | apply lyI | apply lyJ | apply lywI | apply lywJ | apply csI | apply csJ | apply cswI | apply cswJ); assumption)) only [f_X12_isOpen_b2, SM, LI, ↓li_m1, nI_add, pk_mul, nn_sub, nn_m1, nn_div, nn_rem, nn_nz, nn_mod, nJ_l, lN_add, lN_mul, nn_tb1, nI_bt, nn_and, nn_or, nn_xor, nn_shr, nn_1shl, nn_31, il_p, il_n, it_p, it_n, ie_p, ie_n, ie_b, ie_b1, ie_m, ie_mm, it_m, it_m0, il_m0, bI_rZ, Option.bind_some, bd2_some, Nat.add_zero, Nat.zero_add, if_true, if_false, Bool.false_eq_true, eq_self, hI_R, hJ_R, ng_t, ng_e, e26, y1, if_neg ne]
  · obtain ⟨y1, y2⟩ := at' j hj
    rw [show dAt D j = 40 from beq_iff_eq.mp hx] at y1
    simp (disch := first | assumption | omega | decide | ((repeat first | apply lyI | apply lyJ | apply lywI | apply lywJ | apply csI | apply csJ | apply cswI | apply cswJ); assumption)) only [f_X12_isOpen_b2, SM, LI, ↓li_m1, nI_add, pk_mul, nn_sub, nn_m1, nn_div, nn_rem, nn_nz, nn_mod, nJ_l, lN_add, lN_mul, nn_tb1, nI_bt, nn_and, nn_or, nn_xor, nn_shr, nn_1shl, nn_31, il_p, il_n, it_p, it_n, ie_p, ie_n, ie_b, ie_b1, ie_m, ie_mm, it_m, it_m0, il_m0, bI_rZ, Option.bind_some, bd2_some, Nat.add_zero, Nat.zero_add, if_true, if_false, Bool.false_eq_true, eq_self, hI_R, hJ_R, ng_t, ng_e, e26, y1]
  · simp (disch := first | assumption | omega | decide | ((repeat first | apply lyI | apply lyJ | apply lywI | apply lywJ | apply csI | apply csJ | apply cswI | apply cswJ); assumption)) only [f_X12_isOpen_b2, SM, LI, ↓li_m1, nI_add, pk_mul, nn_sub, nn_m1, nn_div, nn_rem, nn_nz, nn_mod, nJ_l, lN_add, lN_mul, nn_tb1, nI_bt, nn_and, nn_or, nn_xor, nn_shr, nn_1shl, nn_31, il_p, il_n, it_p, it_n, ie_p, ie_n, ie_b, ie_b1, ie_m, ie_mm, it_m, it_m0, il_m0, bI_rZ, Option.bind_some, bd2_some, Nat.add_zero, Nat.zero_add, if_true, if_false, Bool.false_eq_true, eq_self, hI_R, hJ_R, ng_t, ng_e, e26]
theorem j_and {x y : Int64} {i : Nat} : (x &&& y).toBitVec.getLsbD i = (x.toBitVec.getLsbD i && y.toBitVec.getLsbD i) := by
  rw [Int64.toBitVec_and, BitVec.getLsbD_and]
theorem j_or {x y : Int64} {i : Nat} : (x ||| y).toBitVec.getLsbD i = (x.toBitVec.getLsbD i || y.toBitVec.getLsbD i) := by
  rw [Int64.toBitVec_or, BitVec.getLsbD_or]
def jo64 (op : Nat) (a b : Int64) : Int64 := if op = 11 then a &&& b else a ||| b
theorem jo_bit {op : Nat} {a b : Int64} {i : Nat} : (jo64 op a b).toBitVec.getLsbD i = if op = 11 then (a.toBitVec.getLsbD i && b.toBitVec.getLsbD i) else (a.toBitVec.getLsbD i || b.toBitVec.getLsbD i) := by
  unfold jo64
  split
  · exact j_and
  · exact j_or
theorem r_joinL {k : aH} (kl : LAY k) {L M op : Nat} (e25 : k.2.1 113 25 = nI (L + 1)) (e26 : k.2.1 113 26 = nI M) (hM : M < 100) (hL : L < 55) (hop : op = 10 ∨ op = 11) (eo : k.2.1 124 M = nI op) : ∃ k', f_X12_joins_l22 113 (nI 0) k = some k' ∧ FR k k' [] [123] [] [] ∧ ∀ x, k'.2.2.1 123 x = if 4 * L ≤ x ∧ x < 4 * L + 4 then jo64 op (k.2.2.1 123 x) (k.2.2.1 123 (x + 4)) else k.2.2.1 123 x := by
  refine forI (fun j (t : Int32 × aH) => ∃ g, t = (nI j, g) ∧ FR k g [] [123] [] [] ∧ ∀ x, g.2.2.1 123 x = if 4 * L ≤ x ∧ x < 4 * L + j then jo64 op (k.2.2.1 123 x) (k.2.2.1 123 (x + 4)) else k.2.2.1 123 x) _ 4 (by decide) ⟨k, rfl, FR.rf, fun x => by rw [if_neg (by omega)]⟩ ?_ ?_
  · rintro j _ hj ⟨g, rfl, fg, i1⟩
    have lg := fg.lay kl
    have q25 : g.2.1 113 25 = nI (L + 1) := (fg.2.2.2.2.2 25 (by decide)).trans e25
    have q26 : g.2.1 113 26 = nI M := (fg.2.2.2.2.2 26 (by decide)).trans e26
    have qo : g.2.1 124 M = nI op := by rw [fg.I 124 (by decide) (by decide) (by decide)]; exact eo
    have ix : 4 * (L + 1) - 4 + j = 4 * L + j := by omega
    have r1 : g.2.2.1 123 (4 * L + j) = k.2.2.1 123 (4 * L + j) := by rw [i1, if_neg (by omega)]
    have r2 : g.2.2.1 123 (4 * (L + 1) + j) = k.2.2.1 123 (4 * L + j + 4) := by rw [i1, if_neg (by omega), show 4 * (L + 1) + j = 4 * L + j + 4 by omega]
    refine ⟨(nI (j + 1), hJ g 123 (4 * L + j) (jo64 op (k.2.2.1 123 (4 * L + j)) (k.2.2.1 123 (4 * L + j + 4)))), ?_, _, rfl, fg.tr (FR.hJ (by decide)), fun x => ?_⟩
    · rcases hop with rfl | rfl
      · rw [show jo64 10 (k.2.2.1 123 (4 * L + j)) (k.2.2.1 123 (4 * L + j + 4)) = k.2.2.1 123 (4 * L + j) ||| k.2.2.1 123 (4 * L + j + 4) from rfl]
        simp (disch := first | assumption | omega | decide | ((repeat first | apply lyI | apply lyJ | apply lywI | apply lywJ | apply csI | apply csJ | apply cswI | apply cswJ); assumption)) only [f_X12_joins_b22, f_X12_joins_j97, SM, LI, ↓li_m1, nI_add, pk_mul, nn_sub, nn_m1, nn_div, nn_rem, nn_nz, nn_mod, nJ_l, lN_add, lN_mul, nn_tb1, nI_bt, nn_and, nn_or, nn_xor, nn_shr, nn_1shl, nn_31, il_p, il_n, it_p, it_n, ie_p, ie_n, ie_b, ie_b1, ie_m, ie_mm, it_m, it_m0, il_m0, bI_rZ, Option.bind_some, bd2_some, Nat.add_zero, Nat.zero_add, if_true, if_false, Bool.false_eq_true, eq_self, hI_R, hJ_R, ng_t, ng_e, q25, q26, qo, ix, r1, r2]
      · rw [show jo64 11 (k.2.2.1 123 (4 * L + j)) (k.2.2.1 123 (4 * L + j + 4)) = k.2.2.1 123 (4 * L + j) &&& k.2.2.1 123 (4 * L + j + 4) from rfl]
        simp (disch := first | assumption | omega | decide | ((repeat first | apply lyI | apply lyJ | apply lywI | apply lywJ | apply csI | apply csJ | apply cswI | apply cswJ); assumption)) only [f_X12_joins_b22, f_X12_joins_j97, SM, LI, ↓li_m1, nI_add, pk_mul, nn_sub, nn_m1, nn_div, nn_rem, nn_nz, nn_mod, nJ_l, lN_add, lN_mul, nn_tb1, nI_bt, nn_and, nn_or, nn_xor, nn_shr, nn_1shl, nn_31, il_p, il_n, it_p, it_n, ie_p, ie_n, ie_b, ie_b1, ie_m, ie_mm, it_m, it_m0, il_m0, bI_rZ, Option.bind_some, bd2_some, Nat.add_zero, Nat.zero_add, if_true, if_false, Bool.false_eq_true, eq_self, hI_R, hJ_R, ng_t, ng_e, q25, q26, qo, ix, r1, r2]
    · by_cases hx : x = 4 * L + j
      · subst hx
        rw [rJ_eq, if_pos (by omega)]
      · rw [rJ_nk hx, i1]
        by_cases hy : 4 * L ≤ x ∧ x < 4 * L + j
        · rw [if_pos hy, if_pos (by omega)]
        · rw [if_neg hy, if_neg (by omega)]
  · rintro _ ⟨g, rfl, fg, i1⟩
    exact ⟨g, by simp (disch := first | assumption | omega | decide | ((repeat first | apply lyI | apply lyJ | apply lywI | apply lywJ | apply csI | apply csJ | apply cswI | apply cswJ); assumption)) only [f_X12_joins_b22, LI, ↓li_m1, nI_add, pk_mul, nn_sub, nn_m1, nn_div, nn_rem, nn_nz, nn_mod, nJ_l, lN_add, lN_mul, nn_tb1, nI_bt, nn_and, nn_or, nn_xor, nn_shr, nn_1shl, nn_31, il_p, il_n, it_p, it_n, ie_p, ie_n, ie_b, ie_b1, ie_m, ie_mm, it_m, it_m0, il_m0, bI_rZ, Option.bind_some, bd2_some, Nat.add_zero, Nat.zero_add, if_true, if_false, Bool.false_eq_true, eq_self, hI_R, hJ_R, ng_t, ng_e], fg, i1⟩
theorem r_joins {k0 k : aH} {T : Nat → Nat} {n i : Nat} {P : Nat → Bool} {X Y : WS} {Z : List WS} {op : Nat} {D : List Nat} {w : Nat} (rs : RSt k0 k T n i P (X :: Y :: Z) (op :: D) w) (hop : op = 10 ∨ op = 11) : ∃ k', f_X12_joins k 113 = some k' ∧ RSt k0 k' T n i P (jnB op Y X :: Z) D w := by
  obtain ⟨r1, r2, ⟨r3, r4, r5⟩, ⟨zx, zy, zz⟩, ⟨⟨dx, -⟩, dd⟩, r8, r9, r10⟩ := rs
  have kl := r2.1
  have hl : (X :: Y :: Z).length = Z.length + 2 := rfl
  have hl1 : (Y :: Z).length = Z.length + 1 := rfl
  have hd : (op :: D).length = D.length + 1 := rfl
  rw [hl] at r3 r8
  rw [hd] at r4 r9
  rw [hl1] at zx
  let k1 := hI (hI k 113 26 (nI D.length)) 113 25 (nI (Z.length + 1))
  have l1 : LAY k1 := kl
  have f1 : FR k k1 [] [] [] [25, 26] := (fr_1 (by decide)).tr (fr_1 (by decide))
  obtain ⟨k2, e2, f2, j2⟩ := r_joinL (k := k1) l1 (L := Z.length) (M := D.length) (op := op) rI_eq (by show (hI (hI k 113 26 (nI D.length)) 113 25 (nI (Z.length + 1))).2.1 113 26 = _; rw [rI_nk (by decide), rI_eq]) (by omega) (by omega) hop (by rw [f1.I 124 (by decide) (by decide) (by decide)]; exact dx)
  have e2' : f_X12_joins_l22 113 (nI 0) (hI (hI k 113 26 (nI D.length)) 113 25 (nI (Z.length + 1))) = some k2 := e2
  refine ⟨k2, ?_, (r1.tr (f1.mono (by decide) (by decide) (by decide) (by decide))).tr (f2.mono (by decide) (by decide) (by decide) (by decide)), rc_fr f2 (by decide) (by decide) (rc_fr f1 (by decide) (by decide) r2), ⟨?_, ?_, ?_⟩, ⟨fun v hv hp => ?_, ?_⟩, ?_, ?_, by omega, r10⟩
  · simp (disch := first | assumption | omega | decide | ((repeat first | apply lyI | apply lyJ | apply lywI | apply lywJ | apply csI | apply csJ | apply cswI | apply cswJ); assumption)) only [f_X12_joins, SM, rI_eq, rI_ne, rI_nk, rJ_eq, rJ_ne, rJ_nk, rI_J, rJ_I, LI, ↓li_m1, nI_add, pk_mul, nn_sub, nn_m1, nn_div, nn_rem, nn_nz, nn_mod, nJ_l, lN_add, lN_mul, nn_tb1, nI_bt, nn_and, nn_or, nn_xor, nn_shr, nn_1shl, nn_31, il_p, il_n, it_p, it_n, ie_p, ie_n, ie_b, ie_b1, ie_m, ie_mm, it_m, it_m0, il_m0, bI_rZ, Option.bind_some, bd2_some, Nat.add_zero, Nat.zero_add, if_true, if_false, Bool.false_eq_true, eq_self, hI_R, hJ_R, ng_t, ng_e, r3, r4, Nat.add_sub_cancel, show Z.length + 2 - 1 = Z.length + 1 from rfl, e2']
  · rw [f2.2.2.2.2.2 25 (by decide)]
    exact rI_eq
  · rw [f2.2.2.2.2.2 26 (by decide)]
    show (hI (hI k 113 26 (nI D.length)) 113 25 (nI (Z.length + 1))).2.1 113 26 = _
    rw [rI_nk (by decide), rI_eq]
  · rw [f2.2.2.2.2.2 27 (by decide), f1.2.2.2.2.2 27 (by decide)]
    exact r5
  · have e1 : k1.2.2.1 = k.2.2.1 := rfl
    rw [j2, if_pos (by omega), jo_bit, e1, zy v hv hp, show 4 * Z.length + v / 64 + 4 = 4 * (Z.length + 1) + v / 64 by omega, zx v hv hp]
    rfl
  · refine zl_c (fun x hx => ?_) zz
    rw [j2, if_neg (by omega)]
    rfl
  · refine dl_c (fun x hx => ?_) dd
    rw [f2.I 124 (by decide) (by decide) (by decide), f1.I 124 (by decide) (by decide) (by decide)]
  · show (jnB op Y X :: Z).length ≤ 52
    rw [List.length_cons]
    omega
/-- not -/
theorem r_notL {k : aH} (kl : LAY k) {L : Nat} (e25 : k.2.1 113 25 = nI (L + 1)) (hL : L < 55) : ∃ k', f_X12_turnsRound_l31 113 (nI 0) k = some k' ∧ FR k k' [] [123] [] [] ∧ ∀ x, k'.2.2.1 123 x = if 4 * L ≤ x ∧ x < 4 * L + 4 then k.2.2.1 123 x ^^^ (-1 : Int64) else k.2.2.1 123 x := by
  refine forI (fun j (t : Int32 × aH) => ∃ g, t = (nI j, g) ∧ FR k g [] [123] [] [] ∧ ∀ x, g.2.2.1 123 x = if 4 * L ≤ x ∧ x < 4 * L + j then k.2.2.1 123 x ^^^ (-1 : Int64) else k.2.2.1 123 x) _ 4 (by decide) ⟨k, rfl, FR.rf, fun x => by rw [if_neg (by omega)]⟩ ?_ ?_
  · rintro j _ hj ⟨g, rfl, fg, i1⟩
    have lg := fg.lay kl
    have q25 : g.2.1 113 25 = nI (L + 1) := (fg.2.2.2.2.2 25 (by decide)).trans e25
    have ix : 4 * (L + 1) - 4 + j = 4 * L + j := by omega
    have r1 : g.2.2.1 123 (4 * L + j) = k.2.2.1 123 (4 * L + j) := by rw [i1, if_neg (by omega)]
    refine ⟨(nI (j + 1), hJ g 123 (4 * L + j) (k.2.2.1 123 (4 * L + j) ^^^ (-1 : Int64))), ?_, _, rfl, fg.tr (FR.hJ (by decide)), fun x => ?_⟩
    · simp (disch := first | assumption | omega | decide | ((repeat first | apply lyI | apply lyJ | apply lywI | apply lywJ | apply csI | apply csJ | apply cswI | apply cswJ); assumption)) only [f_X12_turnsRound_b31, SM, LI, ↓li_m1, nI_add, pk_mul, nn_sub, nn_m1, nn_div, nn_rem, nn_nz, nn_mod, nJ_l, lN_add, lN_mul, nn_tb1, nI_bt, nn_and, nn_or, nn_xor, nn_shr, nn_1shl, nn_31, il_p, il_n, it_p, it_n, ie_p, ie_n, ie_b, ie_b1, ie_m, ie_mm, it_m, it_m0, il_m0, bI_rZ, Option.bind_some, bd2_some, Nat.add_zero, Nat.zero_add, if_true, if_false, Bool.false_eq_true, eq_self, hI_R, hJ_R, ng_t, ng_e, q25, ix, r1]
    · by_cases hx : x = 4 * L + j
      · subst hx
        rw [rJ_eq, if_pos (by omega)]
      · rw [rJ_nk hx, i1]
        by_cases hy : 4 * L ≤ x ∧ x < 4 * L + j
        · rw [if_pos hy, if_pos (by omega)]
        · rw [if_neg hy, if_neg (by omega)]
  · rintro _ ⟨g, rfl, fg, i1⟩
    exact ⟨g, by simp (disch := first | assumption | omega | decide | ((repeat first | apply lyI | apply lyJ | apply lywI | apply lywJ | apply csI | apply csJ | apply cswI | apply cswJ); assumption)) only [f_X12_turnsRound_b31, LI, ↓li_m1, nI_add, pk_mul, nn_sub, nn_m1, nn_div, nn_rem, nn_nz, nn_mod, nJ_l, lN_add, lN_mul, nn_tb1, nI_bt, nn_and, nn_or, nn_xor, nn_shr, nn_1shl, nn_31, il_p, il_n, it_p, it_n, ie_p, ie_n, ie_b, ie_b1, ie_m, ie_mm, it_m, it_m0, il_m0, bI_rZ, Option.bind_some, bd2_some, Nat.add_zero, Nat.zero_add, if_true, if_false, Bool.false_eq_true, eq_self, hI_R, hJ_R, ng_t, ng_e], fg, i1⟩
theorem r_not {k0 k : aH} {T : Nat → Nat} {n i : Nat} {P : Nat → Bool} {X : WS} {Z : List WS} {D : List Nat} {w : Nat} (rs : RSt k0 k T n i P (X :: Z) (12 :: D) (w + 1)) : ∃ k', f_X12_turnsRound_b0 113 k = some (.inl k') ∧ RSt k0 k' T n i P (ntB X :: Z) D w := by
  obtain ⟨r1, r2, ⟨r3, r4, r5⟩, ⟨zx, zz⟩, dl, r8, r9, r10⟩ := id rs
  have kl := r2.1
  have hl : (X :: Z).length = Z.length + 1 := rfl
  have hd : (12 :: D).length = D.length + 1 := rfl
  have dg := r_doing kl dl r4 r9 (x := 12) (by decide)
  rw [decide_eq_true (show (12 :: D).head? = some 12 from rfl), bI_t] at dg
  rw [hl] at r3 r8
  rw [hd] at r4 r9
  let k1 := hI (hI k 113 26 (nI D.length)) 113 27 (nI w)
  have l1 : LAY k1 := kl
  have f1 : FR k k1 [] [] [] [26, 27] := (fr_1 (by decide)).tr (fr_1 (by decide))
  obtain ⟨k2, e2, f2, j2⟩ := r_notL (k := k1) l1 (L := Z.length) ((f1.2.2.2.2.2 25 (by decide)).trans r3) (by omega)
  have e2' : f_X12_turnsRound_l31 113 (nI 0) (hI (hI k 113 26 (nI D.length)) 113 27 (nI w)) = some k2 := e2
  refine ⟨k2, ?_, (r1.tr (f1.mono (by decide) (by decide) (by decide) (by decide))).tr (f2.mono (by decide) (by decide) (by decide) (by decide)), rc_fr f2 (by decide) (by decide) (rc_fr f1 (by decide) (by decide) r2), ⟨?_, ?_, ?_⟩, ⟨fun v hv hp => ?_, ?_⟩, ?_, ?_, by omega, by omega⟩
  · simp (disch := first | assumption | omega | decide | ((repeat first | apply lyI | apply lyJ | apply lywI | apply lywJ | apply csI | apply csJ | apply cswI | apply cswJ); assumption)) only [f_X12_turnsRound_b0, SM, rI_eq, rI_ne, rI_nk, rJ_eq, rJ_ne, rJ_nk, rI_J, rJ_I, LI, ↓li_m1, nI_add, pk_mul, nn_sub, nn_m1, nn_div, nn_rem, nn_nz, nn_mod, nJ_l, lN_add, lN_mul, nn_tb1, nI_bt, nn_and, nn_or, nn_xor, nn_shr, nn_1shl, nn_31, il_p, il_n, it_p, it_n, ie_p, ie_n, ie_b, ie_b1, ie_m, ie_mm, it_m, it_m0, il_m0, bI_rZ, Option.bind_some, bd2_some, Nat.add_zero, Nat.zero_add, if_true, if_false, Bool.false_eq_true, eq_self, hI_R, hJ_R, ng_t, ng_e, dg, r4, r5, Nat.add_sub_cancel, e2']
  · rw [f2.2.2.2.2.2 25 (by decide), f1.2.2.2.2.2 25 (by decide)]
    exact r3
  · rw [f2.2.2.2.2.2 26 (by decide)]
    show (hI (hI k 113 26 (nI D.length)) 113 27 (nI w)).2.1 113 26 = _
    rw [rI_nk (by decide), rI_eq]
  · rw [f2.2.2.2.2.2 27 (by decide)]
    exact rI_eq
  · have e1 : k1.2.2.1 = k.2.2.1 := rfl
    rw [j2, if_pos (by omega), j_not (by omega), e1, zx v hv hp]
    rfl
  · refine zl_c (fun x hx => ?_) zz
    rw [j2, if_neg (by omega)]
    rfl
  · refine dl_c (fun x hx => ?_) dl.2
    rw [f2.I 124 (by decide) (by decide) (by decide), f1.I 124 (by decide) (by decide) (by decide)]
  · show (ntB X :: Z).length ≤ 52
    rw [List.length_cons]
    omega
