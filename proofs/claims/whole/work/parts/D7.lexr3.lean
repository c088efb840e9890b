/-! ===== the reference reads tokens ===== -/
theorem wd_vd {T : Nat → Nat} {n i : Nat} (h : tcI T n i = 6) : vdW (wdI T n i) := by
  obtain ⟨w1, w2, w3, w4⟩ := tc_w (show 6 ≤ tcI T n i by omega)
  obtain ⟨a1, a2, a3, a4⟩ := rn_in (p := chL) (T := T) (n := n) (e := frI T n i) (by omega)
  refine ⟨wd_sm (fun j hj => a3 _ (by omega) (by omega)), ?_⟩
  rw [show (wdI T n i).length = rnE chL T n (frI T n i) - frI T n i from wd_len]
  rcases w4 with e7 | ⟨l8, -⟩ <;> omega
theorem ll_8n {v x : Nat} (hx : x < 256) : (lN v <<< (lN 8 &&& 63)) ||| lN x = lN (v * 256 + x) := by
  rw [show lN 8 = Int32.toInt64 (8 : Int32) from by decide]
  exact ll_8 hx
theorem r_name {k : aH} (kl : LAY k) {T : Nat → Nat} {n i : Nat} (rx : RX k T n i) (h6 : tcI T n i = 6) : f_X12_nameHere k 113 = some (lN (c8 (wdI T n i))) := by
  obtain ⟨rt, e14, e15, e13, -, -⟩ := id rx
  have n9 := rt.1
  obtain ⟨w1, w2, w3, w4⟩ := tc_w (show 6 ≤ tcI T n i by omega)
  obtain ⟨a1, a2, a3, a4⟩ := rn_in (p := chL) (T := T) (n := n) (e := frI T n i) (by omega)
  rw [w3] at e15
  have lp : f_X12_nameHere_l7 k 113 (lN 0) (nI (frI T n i)) = some (lN (c8 (wdI T n i))) := by
    refine for0 (body := fun zz : Int64 × Int32 => f_X12_nameHere_b7 k 113 zz.1 zz.2) (fun j => (lN (c8 (wdL T (frI T n i) j)), nI (frI T n i + j))) (rnE chL T n (frI T n i) - frI T n i) (e := lN (c8 (wdI T n i))) (by rw [Nat.add_zero]; rfl) (by omega) (fun j hj => ?_) ?_
    · have b := r_byte (j := frI T n i + j) kl rt (by omega)
      have eb : btI T n (frI T n i + j) = nI (T (frI T n i + j)) := if_pos (by omega)
      rw [eb] at b
      have tb := rt.2.2.1 (frI T n i + j)
      have l8 := ll_8n (v := c8 (wdL T (frI T n i) j)) tb
      rw [wd_s, c8_s]
      simp (disch := first | assumption | omega | decide | ((repeat first | apply lyI | apply lyJ | apply lywI | apply lywJ | apply csI | apply csJ | apply cswI | apply cswJ); assumption)) only [f_X12_nameHere_b7, SM, LI, ↓li_m1, nI_add, pk_mul, nn_sub, nn_m1, nn_div, nn_rem, nn_nz, nn_mod, nJ_l, lN_add, lN_mul, nn_tb1, nI_bt, nn_and, nn_or, nn_xor, nn_shr, nn_1shl, nn_31, il_p, il_n, it_p, it_n, ie_p, ie_n, ie_b, ie_b1, ie_m, ie_mm, it_m, it_m0, il_m0, bI_rZ, Option.bind_some, bd2_some, Nat.add_zero, Nat.zero_add, if_true, if_false, Bool.false_eq_true, eq_self, hI_R, hJ_R, ng_t, ng_e, e15, b, l8]
      rfl
    · rw [show frI T n i + (rnE chL T n (frI T n i) - frI T n i) = rnE chL T n (frI T n i) by omega]
      simp (disch := first | assumption | omega | decide | ((repeat first | apply lyI | apply lyJ | apply lywI | apply lywJ | apply csI | apply csJ | apply cswI | apply cswJ); assumption)) only [f_X12_nameHere_b7, SM, LI, ↓li_m1, nI_add, pk_mul, nn_sub, nn_m1, nn_div, nn_rem, nn_nz, nn_mod, nJ_l, lN_add, lN_mul, nn_tb1, nI_bt, nn_and, nn_or, nn_xor, nn_shr, nn_1shl, nn_31, il_p, il_n, it_p, it_n, ie_p, ie_n, ie_b, ie_b1, ie_m, ie_mm, it_m, it_m0, il_m0, bI_rZ, Option.bind_some, bd2_some, Nat.add_zero, Nat.zero_add, if_true, if_false, Bool.false_eq_true, eq_self, hI_R, hJ_R, ng_t, ng_e, e15]
      rfl
  simp (disch := first | assumption | omega | decide | ((repeat first | apply lyI | apply lyJ | apply lywI | apply lywJ | apply csI | apply csJ | apply cswI | apply cswJ); assumption)) only [f_X12_nameHere, SM, LI, ↓li_m1, nI_add, pk_mul, nn_sub, nn_m1, nn_div, nn_rem, nn_nz, nn_mod, nJ_l, lN_add, lN_mul, nn_tb1, nI_bt, nn_and, nn_or, nn_xor, nn_shr, nn_1shl, nn_31, il_p, il_n, it_p, it_n, ie_p, ie_n, ie_b, ie_b1, ie_m, ie_mm, it_m, it_m0, il_m0, bI_rZ, Option.bind_some, bd2_some, Nat.add_zero, Nat.zero_add, if_true, if_false, Bool.false_eq_true, eq_self, hI_R, hJ_R, ng_t, ng_e, LJ, e14, lp]
theorem r_find {k : aH} (kl : LAY k) {T : Nat → Nat} {n i : Nat} (rx : RX k T n i) (h6 : tcI T n i = 6) {C : Nat → Nat} {V : Nat → List Nat} {o : Nat} (nr : NRe k o C V) (nv : NV C V) {s : Nat} (s4 : s < 4) (ho : o ≤ 176) : f_X12_findHere k 113 (nI (o + nbN s)) (nI (C s)) = some (lkI (lkN C V s (wdI T n i))) := by
  have rn := r_name kl rx h6
  have vw := wd_vd h6
  have b : nbN s + C s ≤ 44 ∧ C s ≤ 24 := by
    have := nv.1 s s4
    rcases lt4 s4 with rfl | rfl | rfl | rfl <;> simp [nbN, nmN] at * <;> omega
  obtain ⟨b1, b2⟩ := b
  have lp : f_X12_findHere_l2 k 113 (nI (o + nbN s)) (nI (C s)) (nI 0) = some (match lkN C V s (wdI T n i) with | some k => .inl (nI k) | none => .inr ()) := by
    refine srch (body := fun q : Int32 => f_X12_findHere_b2 k 113 (nI (o + nbN s)) (nI (C s)) q) (fun j => nI j) (fun j => V (nbN s + j) == wdI T n i) (C s) (fun e => (Sum.inl (nI e) : Int32 ⊕ Unit)) (Sum.inr ()) rfl (by omega) (fun j hj hp => ?_) (fun j hj hp => ?_) ?_
    · have q := nr s j s4 hj
      rw [← Nat.add_assoc] at q
      have vj := nv.2.1 s j s4 hj
      have nk : ¬ lg_cmp (lN (c8 (V (nbN s + j)))) (lN (c8 (wdI T n i))) = nI 0 := fun e => by
        rw [(c8_eq vj vw).mp e] at hp
        simp at hp
      simp (disch := first | assumption | omega | decide | ((repeat first | apply lyI | apply lyJ | apply lywI | apply lywJ | apply csI | apply csJ | apply cswI | apply cswJ); assumption)) only [f_X12_findHere_b2, SM, LI, ↓li_m1, nI_add, pk_mul, nn_sub, nn_m1, nn_div, nn_rem, nn_nz, nn_mod, nJ_l, lN_add, lN_mul, nn_tb1, nI_bt, nn_and, nn_or, nn_xor, nn_shr, nn_1shl, nn_31, il_p, il_n, it_p, it_n, ie_p, ie_n, ie_b, ie_b1, ie_m, ie_mm, it_m, it_m0, il_m0, bI_rZ, Option.bind_some, bd2_some, Nat.add_zero, Nat.zero_add, if_true, if_false, Bool.false_eq_true, eq_self, hI_R, hJ_R, ng_t, ng_e, q, rn, if_neg nk]
    · have q := nr s j s4 hj
      rw [← Nat.add_assoc] at q
      have vj := nv.2.1 s j s4 hj
      simp (disch := first | assumption | omega | decide | ((repeat first | apply lyI | apply lyJ | apply lywI | apply lywJ | apply csI | apply csJ | apply cswI | apply cswJ); assumption)) only [f_X12_findHere_b2, SM, LI, ↓li_m1, nI_add, pk_mul, nn_sub, nn_m1, nn_div, nn_rem, nn_nz, nn_mod, nJ_l, lN_add, lN_mul, nn_tb1, nI_bt, nn_and, nn_or, nn_xor, nn_shr, nn_1shl, nn_31, il_p, il_n, it_p, it_n, ie_p, ie_n, ie_b, ie_b1, ie_m, ie_mm, it_m, it_m0, il_m0, bI_rZ, Option.bind_some, bd2_some, Nat.add_zero, Nat.zero_add, if_true, if_false, Bool.false_eq_true, eq_self, hI_R, hJ_R, ng_t, ng_e, q, rn, if_pos ((c8_eq vj vw).mpr (beq_iff_eq.mp hp))]
    · simp (disch := first | assumption | omega | decide | ((repeat first | apply lyI | apply lyJ | apply lywI | apply lywJ | apply csI | apply csJ | apply cswI | apply cswJ); assumption)) only [f_X12_findHere_b2, SM, LI, ↓li_m1, nI_add, pk_mul, nn_sub, nn_m1, nn_div, nn_rem, nn_nz, nn_mod, nJ_l, lN_add, lN_mul, nn_tb1, nI_bt, nn_and, nn_or, nn_xor, nn_shr, nn_1shl, nn_31, il_p, il_n, it_p, it_n, ie_p, ie_n, ie_b, ie_b1, ie_m, ie_mm, it_m, it_m0, il_m0, bI_rZ, Option.bind_some, bd2_some, Nat.add_zero, Nat.zero_add, if_true, if_false, Bool.false_eq_true, eq_self, hI_R, hJ_R, ng_t, ng_e]
  cases hf : lkN C V s (wdI T n i) with
  | some e =>
    rw [hf] at lp
    simp (disch := first | assumption | omega | decide | ((repeat first | apply lyI | apply lyJ | apply lywI | apply lywJ | apply csI | apply csJ | apply cswI | apply cswJ); assumption)) only [f_X12_findHere, SM, LI, ↓li_m1, nI_add, pk_mul, nn_sub, nn_m1, nn_div, nn_rem, nn_nz, nn_mod, nJ_l, lN_add, lN_mul, nn_tb1, nI_bt, nn_and, nn_or, nn_xor, nn_shr, nn_1shl, nn_31, il_p, il_n, it_p, it_n, ie_p, ie_n, ie_b, ie_b1, ie_m, ie_mm, it_m, it_m0, il_m0, bI_rZ, Option.bind_some, bd2_some, Nat.add_zero, Nat.zero_add, if_true, if_false, Bool.false_eq_true, eq_self, hI_R, hJ_R, ng_t, ng_e, lp]
    rfl
  | none =>
    rw [hf] at lp
    simp (disch := first | assumption | omega | decide | ((repeat first | apply lyI | apply lyJ | apply lywI | apply lywJ | apply csI | apply csJ | apply cswI | apply cswJ); assumption)) only [f_X12_findHere, SM, LI, ↓li_m1, nI_add, pk_mul, nn_sub, nn_m1, nn_div, nn_rem, nn_nz, nn_mod, nJ_l, lN_add, lN_mul, nn_tb1, nI_bt, nn_and, nn_or, nn_xor, nn_shr, nn_1shl, nn_31, il_p, il_n, it_p, it_n, ie_p, ie_n, ie_b, ie_b1, ie_m, ie_mm, it_m, it_m0, il_m0, bI_rZ, Option.bind_some, bd2_some, Nat.add_zero, Nat.zero_add, if_true, if_false, Bool.false_eq_true, eq_self, hI_R, hJ_R, ng_t, ng_e, lp]
    rfl
theorem lk_some {o : Option Nat} (h : o.isSome = true) (hb : ∀ k, o = some k → k < 2147483648) : ¬ lkI o = m1 := by
  cases o with
  | none => cases h
  | some k => exact fun e => nI_pos (n := k) (by have := hb k rfl; omega) (by rw [show nI k = m1 from e]; decide)
theorem lk_none {o : Option Nat} (h : o.isSome = false) : lkI o = m1 := by
  cases o with
  | none => rfl
  | some k => cases h
/-- how many names there are of each sort, in the reference's new slot -/
def NRc (k : aH) (C : Nat → Nat) : Prop := k.2.1 114 1600 = nI (C 0) ∧ k.2.1 114 1601 = nI (C 1) ∧ k.2.1 114 1603 = nI (C 2) ∧ k.2.1 114 1604 = nI (C 3)
theorem r_free {k : aH} (kl : LAY k) {T : Nat → Nat} {n i : Nat} (rx : RX k T n i) (h6 : tcI T n i = 6) {C : Nat → Nat} {V : Nat → List Nat} (nr : NRe k 176 C V) (nv : NV C V) (nc : NRc k C) : f_X12_isFree k 113 = some (bI (!tkB C V (wdI T n i))) := by
  obtain ⟨q0, q1, q2, q3⟩ := nc
  obtain ⟨b0, b1, b2, b3⟩ := nv_le4 nv
  have r0 : f_X12_findHere k 113 (nI 176) (nI (C 0)) = some (lkI (lkN C V 0 (wdI T n i))) := r_find kl rx h6 nr nv (s := 0) (by decide) (by decide)
  have r1 : f_X12_findHere k 113 (nI 180) (nI (C 1)) = some (lkI (lkN C V 1 (wdI T n i))) := r_find kl rx h6 nr nv (s := 1) (by decide) (by decide)
  have r2 : f_X12_findHere k 113 (nI 204) (nI (C 2)) = some (lkI (lkN C V 2 (wdI T n i))) := r_find kl rx h6 nr nv (s := 2) (by decide) (by decide)
  have r3 : f_X12_findHere k 113 (nI 216) (nI (C 3)) = some (lkI (lkN C V 3 (wdI T n i))) := r_find kl rx h6 nr nv (s := 3) (by decide) (by decide)
  have bd : ∀ s, C s ≤ 24 → ∀ x, lkN C V s (wdI T n i) = some x → x < 2147483648 := fun s hs x hx => by
    have := (lk_ex hx).1
    omega
  have ek : tkB C V (wdI T n i) = ((((false || (lkN C V 0 (wdI T n i)).isSome) || (lkN C V 1 (wdI T n i)).isSome) || (lkN C V 2 (wdI T n i)).isSome) || (lkN C V 3 (wdI T n i)).isSome) := rfl
  rw [ek]
  cases h0 : (lkN C V 0 (wdI T n i)).isSome with
  | true =>
    have z0 := lk_some h0 (bd 0 (by omega))
    simp (disch := first | assumption | omega | decide | ((repeat first | apply lyI | apply lyJ | apply lywI | apply lywJ | apply csI | apply csJ | apply cswI | apply cswJ); assumption)) only [f_X12_isFree, SM, LI, ↓li_m1, nI_add, pk_mul, nn_sub, nn_m1, nn_div, nn_rem, nn_nz, nn_mod, nJ_l, lN_add, lN_mul, nn_tb1, nI_bt, nn_and, nn_or, nn_xor, nn_shr, nn_1shl, nn_31, il_p, il_n, it_p, it_n, ie_p, ie_n, ie_b, ie_b1, ie_m, ie_mm, it_m, it_m0, il_m0, bI_rZ, Option.bind_some, bd2_some, Nat.add_zero, Nat.zero_add, if_true, if_false, Bool.false_eq_true, eq_self, hI_R, hJ_R, ng_t, ng_e, q0, r0, if_neg z0]
    rfl
  | false =>
    rw [lk_none h0] at r0
    cases h1 : (lkN C V 1 (wdI T n i)).isSome with
    | true =>
      have z1 := lk_some h1 (bd 1 (by omega))
      simp (disch := first | assumption | omega | decide | ((repeat first | apply lyI | apply lyJ | apply lywI | apply lywJ | apply csI | apply csJ | apply cswI | apply cswJ); assumption)) only [f_X12_isFree, SM, LI, ↓li_m1, nI_add, pk_mul, nn_sub, nn_m1, nn_div, nn_rem, nn_nz, nn_mod, nJ_l, lN_add, lN_mul, nn_tb1, nI_bt, nn_and, nn_or, nn_xor, nn_shr, nn_1shl, nn_31, il_p, il_n, it_p, it_n, ie_p, ie_n, ie_b, ie_b1, ie_m, ie_mm, it_m, it_m0, il_m0, bI_rZ, Option.bind_some, bd2_some, Nat.add_zero, Nat.zero_add, if_true, if_false, Bool.false_eq_true, eq_self, hI_R, hJ_R, ng_t, ng_e, q0, r0, q1, r1, if_neg z1]
      rfl
    | false =>
      rw [lk_none h1] at r1
      cases h2 : (lkN C V 2 (wdI T n i)).isSome with
      | true =>
        have z2 := lk_some h2 (bd 2 (by omega))
        simp (disch := first | assumption | omega | decide | ((repeat first | apply lyI | apply lyJ | apply lywI | apply lywJ | apply csI | apply csJ | apply cswI | apply cswJ); assumption)) only [f_X12_isFree, SM, LI, ↓li_m1, nI_add, pk_mul, nn_sub, nn_m1, nn_div, nn_rem, nn_nz, nn_mod, nJ_l, lN_add, lN_mul, nn_tb1, nI_bt, nn_and, nn_or, nn_xor, nn_shr, nn_1shl, nn_31, il_p, il_n, it_p, it_n, ie_p, ie_n, ie_b, ie_b1, ie_m, ie_mm, it_m, it_m0, il_m0, bI_rZ, Option.bind_some, bd2_some, Nat.add_zero, Nat.zero_add, if_true, if_false, Bool.false_eq_true, eq_self, hI_R, hJ_R, ng_t, ng_e, q0, r0, q1, r1, q2, r2, if_neg z2]
        rfl
      | false =>
        rw [lk_none h2] at r2
        cases h3 : (lkN C V 3 (wdI T n i)).isSome with
        | true =>
          have z3 := lk_some h3 (bd 3 (by omega))
          simp (disch := first | assumption | omega | decide | ((repeat first | apply lyI | apply lyJ | apply lywI | apply lywJ | apply csI | apply csJ | apply cswI | apply cswJ); assumption)) only [f_X12_isFree, SM, LI, ↓li_m1, nI_add, pk_mul, nn_sub, nn_m1, nn_div, nn_rem, nn_nz, nn_mod, nJ_l, lN_add, lN_mul, nn_tb1, nI_bt, nn_and, nn_or, nn_xor, nn_shr, nn_1shl, nn_31, il_p, il_n, it_p, it_n, ie_p, ie_n, ie_b, ie_b1, ie_m, ie_mm, it_m, it_m0, il_m0, bI_rZ, Option.bind_some, bd2_some, Nat.add_zero, Nat.zero_add, if_true, if_false, Bool.false_eq_true, eq_self, hI_R, hJ_R, ng_t, ng_e, q0, r0, q1, r1, q2, r2, q3, r3, if_neg z3]
          rfl
        | false =>
          rw [lk_none h3] at r3
          simp (disch := first | assumption | omega | decide | ((repeat first | apply lyI | apply lyJ | apply lywI | apply lywJ | apply csI | apply csJ | apply cswI | apply cswJ); assumption)) only [f_X12_isFree, SM, LI, ↓li_m1, nI_add, pk_mul, nn_sub, nn_m1, nn_div, nn_rem, nn_nz, nn_mod, nJ_l, lN_add, lN_mul, nn_tb1, nI_bt, nn_and, nn_or, nn_xor, nn_shr, nn_1shl, nn_31, il_p, il_n, it_p, it_n, ie_p, ie_n, ie_b, ie_b1, ie_m, ie_mm, it_m, it_m0, il_m0, bI_rZ, Option.bind_some, bd2_some, Nat.add_zero, Nat.zero_add, if_true, if_false, Bool.false_eq_true, eq_self, hI_R, hJ_R, ng_t, ng_e, q0, r0, q1, r1, q2, r2, q3, r3]
          rfl
/-- the reference looks at the i-th token, without a fault so far -/
def RC (k : aH) (T : Nat → Nat) (n i : Nat) : Prop := LAY k ∧ RX k T n i ∧ k.2.1 113 19 = nI 0 ∧ k.2.1 113 18 = m1 ∧ k.2.1 113 11 = nI 0
def RLx (k : aH) (f p : Nat) : Prop := LAY k ∧ k.2.1 113 19 = nI f ∧ k.2.1 113 18 = nI p ∧ k.2.1 113 11 = nI 0
theorem rc_fr {k k' : aH} {T : Nat → Nat} {n i : Nat} {cI cJ f0 f1 : List Nat} (hf : FR k k' cI cJ f0 f1) (h1 : 121 ∉ cI) (h2 : ∀ x ∈ f1, x < 11 ∨ 19 < x) (rc : RC k T n i) : RC k' T n i := by
  obtain ⟨a, b, c, d, e⟩ := rc
  have z : ∀ x, 11 ≤ x → x ≤ 19 → x ∉ f1 := fun x a b e => by have := h2 x e; omega
  refine ⟨hf.lay a, rx_fr hf h1 (fun x hx => by have := h2 x hx; omega) b, ?_, ?_, ?_⟩
  · rw [hf.2.2.2.2.2 19 (z 19 (by decide) (by decide))]; exact c
  · rw [hf.2.2.2.2.2 18 (z 18 (by decide) (by decide))]; exact d
  · rw [hf.2.2.2.2.2 11 (z 11 (by decide) (by decide))]; exact e
theorem rlx_fr {k k' : aH} {f p : Nat} {cI cJ f0 f1 : List Nat} (hf : FR k k' cI cJ f0 f1) (h2 : ∀ x ∈ f1, x < 11 ∨ 19 < x) (rl : RLx k f p) : RLx k' f p := by
  obtain ⟨a, c, d, e⟩ := rl
  have z : ∀ x, 11 ≤ x → x ≤ 19 → x ∉ f1 := fun x a b e => by have := h2 x e; omega
  refine ⟨hf.lay a, ?_, ?_, ?_⟩
  · rw [hf.2.2.2.2.2 19 (z 19 (by decide) (by decide))]; exact c
  · rw [hf.2.2.2.2.2 18 (z 18 (by decide) (by decide))]; exact d
  · rw [hf.2.2.2.2.2 11 (z 11 (by decide) (by decide))]; exact e
def F13 : List Nat := [13, 14, 15, 16, 18, 19, 21]
theorem r_go {k : aH} {T : Nat → Nat} {n i : Nat} (rc : RC k T n i) : ∃ k', f_X12_ahead k 113 = some k' ∧ FR k k' [] [] [] F13 ∧ RC k' T n (i + 1) := by
  obtain ⟨kl, rx, e19, e18, e11⟩ := rc
  obtain ⟨k', r, f, rx'⟩ := r_ahead kl rx
  exact ⟨k', r, f.mono (by decide) (by decide) (by decide) (by decide), f.lay kl, rx', (f.2.2.2.2.2 19 (by decide)).trans e19, (f.2.2.2.2.2 18 (by decide)).trans e18, (f.2.2.2.2.2 11 (by decide)).trans e11⟩
theorem r_fail {k : aH} {T : Nat → Nat} {n i : Nat} (rc : RC k T n i) (f : Nat) : ∃ k', f_X12_fails k 113 (nI f) = some (nI 0, k') ∧ FR k k' [] [] [] F13 ∧ RLx k' (fkN T n i f) (frI T n i) := by
  obtain ⟨kl, ⟨rt, e14, e15, e13, -, -⟩, e19, e18, e11⟩ := rc
  have tl := tc_le (T := T) (n := n) (i := i)
  have n9 := rt.1
  refine ⟨hI (hI k 113 19 (nI (fkN T n i f))) 113 18 (nI (frI T n i)), ?_, (fr_1 (by decide)).tr (fr_1 (by decide)), kl, ?_, rI_eq, ?_⟩
  · by_cases h1 : tcI T n i = 1
    · have ek : fkN T n i f = 1 := if_pos h1
      have ec : clN (tcI T n i) = 1 := by rw [h1]; rfl
      rw [ec] at e13
      rw [ek]
      simp (disch := first | assumption | omega | decide | ((repeat first | apply lyI | apply lyJ | apply lywI | apply lywJ | apply csI | apply csJ | apply cswI | apply cswJ); assumption)) only [f_X12_fails, f_X12_fails_j21, SM, rI_eq, rI_ne, rI_nk, rJ_eq, rJ_ne, rJ_nk, rI_J, rJ_I, LI, ↓li_m1, nI_add, pk_mul, nn_sub, nn_m1, nn_div, nn_rem, nn_nz, nn_mod, nJ_l, lN_add, lN_mul, nn_tb1, nI_bt, nn_and, nn_or, nn_xor, nn_shr, nn_1shl, nn_31, il_p, il_n, it_p, it_n, ie_p, ie_n, ie_b, ie_b1, ie_m, ie_mm, it_m, it_m0, il_m0, bI_rZ, Option.bind_some, bd2_some, Nat.add_zero, Nat.zero_add, if_true, if_false, Bool.false_eq_true, eq_self, hI_R, hJ_R, ng_t, ng_e, e19, e13, e14]
    · have ek : fkN T n i f = f := if_neg h1
      have ec : clN (tcI T n i) ≠ 1 ∧ clN (tcI T n i) < 5 := by
        unfold clN
        refine ⟨fun e => ?_, ?_⟩
        · repeat' split at e
          all_goals omega
        · repeat' split
          all_goals decide
      obtain ⟨ec1, ec2⟩ := ec
      rw [ek]
      simp (disch := first | assumption | omega | decide | ((repeat first | apply lyI | apply lyJ | apply lywI | apply lywJ | apply csI | apply csJ | apply cswI | apply cswJ); assumption)) only [f_X12_fails, f_X12_fails_j21, SM, rI_eq, rI_ne, rI_nk, rJ_eq, rJ_ne, rJ_nk, rI_J, rJ_I, LI, ↓li_m1, nI_add, pk_mul, nn_sub, nn_m1, nn_div, nn_rem, nn_nz, nn_mod, nJ_l, lN_add, lN_mul, nn_tb1, nI_bt, nn_and, nn_or, nn_xor, nn_shr, nn_1shl, nn_31, il_p, il_n, it_p, it_n, ie_p, ie_n, ie_b, ie_b1, ie_m, ie_mm, it_m, it_m0, il_m0, bI_rZ, Option.bind_some, bd2_some, Nat.add_zero, Nat.zero_add, if_true, if_false, Bool.false_eq_true, eq_self, hI_R, hJ_R, ng_t, ng_e, e19, e13, e14]
  · rw [rI_nk (by decide), rI_eq]
  · rw [rI_nk (by decide), rI_nk (by decide)]
    exact e11
theorem sg_c {T : Nat → Nat} {n i : Nat} (h3 : 3 ≤ tcI T n i) (h5 : tcI T n i ≤ 5) : T (frI T n i) = if tcI T n i = 3 then 59 else if tcI T n i = 4 then 40 else 41 := by
  have hn : ¬ n ≤ frI T n i := fun e => by rw [tc_0.mpr e] at h3; omega
  have e : tcI T n i = sgcN (T (frI T n i)) := by
    unfold tcI tcF at h3 h5 ⊢
    rw [if_neg hn] at h3 h5 ⊢
    split
    · rename_i hL
      rw [if_pos hL] at h3 h5
      split at h5
      · omega
      · split at h5
        · omega
        · omega
    · rename_i hL
      rw [if_neg hL] at h3 h5
      split
      · rename_i hD
        rw [if_pos hD] at h3 h5
        split at h3 <;> omega
      · rfl
  unfold sgcN at e
  split at e
  · rename_i h; rw [e, if_neg (by decide), if_pos rfl]; exact h
  · split at e
    · rename_i h; rw [e, if_neg (by decide), if_neg (by decide)]; exact h
    · split at e
      · rename_i h; rw [e, if_pos rfl]; exact h
      · omega
/-- is it this sign: 3 ; 4 ( 5 ) -/
theorem r_sign {k : aH} (kl : LAY k) {T : Nat → Nat} {n i : Nat} (rx : RX k T n i) {t c : Nat} (ht : (t = 3 ∧ c = 59) ∨ (t = 4 ∧ c = 40) ∨ (t = 5 ∧ c = 41)) : f_X12_isSign k 113 (nI c) = some (bI (decide (tcI T n i = t))) := by
  obtain ⟨rt, e14, e15, e13, -, e16⟩ := rx
  have tl := tc_le (T := T) (n := n) (i := i)
  rcases (show (3 ≤ tcI T n i ∧ tcI T n i ≤ 5) ∨ ¬ (3 ≤ tcI T n i ∧ tcI T n i ≤ 5) by omega) with ⟨h3, h5⟩ | hx
  · have ec : clN (tcI T n i) = 4 := by
      unfold clN
      rw [if_neg (by omega), if_neg (by omega), if_neg (by omega), if_pos h5]
    have e := e16 h3 h5
    have tc := sg_c h3 h5
    rw [ec] at e13
    by_cases hc : tcI T n i = t
    · have : T (frI T n i) = c := by
        rw [tc]
        rcases ht with ⟨rfl, rfl⟩ | ⟨rfl, rfl⟩ | ⟨rfl, rfl⟩ <;> rw [hc] <;> rfl
      rw [this] at e
      rw [decide_eq_true hc]
      simp (disch := first | assumption | omega | decide | ((repeat first | apply lyI | apply lyJ | apply lywI | apply lywJ | apply csI | apply csJ | apply cswI | apply cswJ); assumption)) only [f_X12_isSign, SM, LI, ↓li_m1, nI_add, pk_mul, nn_sub, nn_m1, nn_div, nn_rem, nn_nz, nn_mod, nJ_l, lN_add, lN_mul, nn_tb1, nI_bt, nn_and, nn_or, nn_xor, nn_shr, nn_1shl, nn_31, il_p, il_n, it_p, it_n, ie_p, ie_n, ie_b, ie_b1, ie_m, ie_mm, it_m, it_m0, il_m0, bI_rZ, Option.bind_some, bd2_some, Nat.add_zero, Nat.zero_add, if_true, if_false, Bool.false_eq_true, eq_self, hI_R, hJ_R, ng_t, ng_e, e13, e]
      rfl
    · have : T (frI T n i) ≠ c := by
        rw [tc]
        rcases ht with ⟨rfl, rfl⟩ | ⟨rfl, rfl⟩ | ⟨rfl, rfl⟩ <;> (repeat' split) <;> omega
      have tb := rt.2.2.1 (frI T n i)
      have c9 : c < 100 := by omega
      rw [decide_eq_false hc]
      simp (disch := first | assumption | omega | decide | ((repeat first | apply lyI | apply lyJ | apply lywI | apply lywJ | apply csI | apply csJ | apply cswI | apply cswJ); assumption)) only [f_X12_isSign, SM, LI, ↓li_m1, nI_add, pk_mul, nn_sub, nn_m1, nn_div, nn_rem, nn_nz, nn_mod, nJ_l, lN_add, lN_mul, nn_tb1, nI_bt, nn_and, nn_or, nn_xor, nn_shr, nn_1shl, nn_31, il_p, il_n, it_p, it_n, ie_p, ie_n, ie_b, ie_b1, ie_m, ie_mm, it_m, it_m0, il_m0, bI_rZ, Option.bind_some, bd2_some, Nat.add_zero, Nat.zero_add, if_true, if_false, Bool.false_eq_true, eq_self, hI_R, hJ_R, ng_t, ng_e, e13, e]
      rfl
  · have ec : clN (tcI T n i) ≠ 4 ∧ clN (tcI T n i) < 5 := by
      unfold clN
      refine ⟨fun e => ?_, ?_⟩
      · repeat' split at e
        all_goals omega
      · repeat' split
        all_goals decide
    obtain ⟨ec1, ec2⟩ := ec
    rw [decide_eq_false (by omega)]
    simp (disch := first | assumption | omega | decide | ((repeat first | apply lyI | apply lyJ | apply lywI | apply lywJ | apply csI | apply csJ | apply cswI | apply cswJ); assumption)) only [f_X12_isSign, SM, LI, ↓li_m1, nI_add, pk_mul, nn_sub, nn_m1, nn_div, nn_rem, nn_nz, nn_mod, nJ_l, lN_add, lN_mul, nn_tb1, nI_bt, nn_and, nn_or, nn_xor, nn_shr, nn_1shl, nn_31, il_p, il_n, it_p, it_n, ie_p, ie_n, ie_b, ie_b1, ie_m, ie_mm, it_m, it_m0, il_m0, bI_rZ, Option.bind_some, bd2_some, Nat.add_zero, Nat.zero_add, if_true, if_false, Bool.false_eq_true, eq_self, hI_R, hJ_R, ng_t, ng_e, e13]
    rfl
theorem r_want {k : aH} {T : Nat → Nat} {n i t c : Nat} (rc : RC k T n i) (ht : (t = 3 ∧ c = 59) ∨ (t = 4 ∧ c = 40) ∨ (t = 5 ∧ c = 41)) : (tcI T n i = t → ∃ k', f_X12_wantSign k 113 (nI c) = some (nI 1, k') ∧ FR k k' [] [] [] F13 ∧ RC k' T n (i + 1)) ∧ (tcI T n i ≠ t → ∃ k', f_X12_wantSign k 113 (nI c) = some (nI 0, k') ∧ FR k k' [] [] [] F13 ∧ RLx k' (fkN T n i 2) (frI T n i)) := by
  have kl := rc.1
  have s := r_sign kl rc.2.1 ht
  constructor
  · intro e
    obtain ⟨k', r, f, rc'⟩ := r_go rc
    rw [decide_eq_true e] at s
    exact ⟨k', by simp (disch := first | assumption | omega | decide | ((repeat first | apply lyI | apply lyJ | apply lywI | apply lywJ | apply csI | apply csJ | apply cswI | apply cswJ); assumption)) only [f_X12_wantSign, SM, LI, ↓li_m1, nI_add, pk_mul, nn_sub, nn_m1, nn_div, nn_rem, nn_nz, nn_mod, nJ_l, lN_add, lN_mul, nn_tb1, nI_bt, nn_and, nn_or, nn_xor, nn_shr, nn_1shl, nn_31, il_p, il_n, it_p, it_n, ie_p, ie_n, ie_b, ie_b1, ie_m, ie_mm, it_m, it_m0, il_m0, bI_rZ, Option.bind_some, bd2_some, Nat.add_zero, Nat.zero_add, if_true, if_false, Bool.false_eq_true, eq_self, hI_R, hJ_R, ng_t, ng_e, s, bI_t, r], f, rc'⟩
  · intro e
    obtain ⟨k', r, f, rl⟩ := r_fail rc 2
    have rz : rZ (nI 0) = some (nI 0) := rfl
    rw [decide_eq_false e] at s
    exact ⟨k', by simp (disch := first | assumption | omega | decide | ((repeat first | apply lyI | apply lyJ | apply lywI | apply lywJ | apply csI | apply csJ | apply cswI | apply cswJ); assumption)) only [f_X12_wantSign, SM, LI, ↓li_m1, nI_add, pk_mul, nn_sub, nn_m1, nn_div, nn_rem, nn_nz, nn_mod, nJ_l, lN_add, lN_mul, nn_tb1, nI_bt, nn_and, nn_or, nn_xor, nn_shr, nn_1shl, nn_31, il_p, il_n, it_p, it_n, ie_p, ie_n, ie_b, ie_b1, ie_m, ie_mm, it_m, it_m0, il_m0, bI_rZ, Option.bind_some, bd2_some, Nat.add_zero, Nat.zero_add, if_true, if_false, Bool.false_eq_true, eq_self, hI_R, hJ_R, ng_t, ng_e, s, bI_f, r, rz], f, rl⟩
theorem r_wantW {k : aH} {T : Nat → Nat} {n i q : Nat} (rc : RC k T n i) (hq : q < 27) : (tcI T n i = 8 + q → ∃ k', f_X12_wantWord k 113 1 (nI (rkN q)) = some (nI 1, k') ∧ FR k k' [] [] [] F13 ∧ RC k' T n (i + 1)) ∧ (tcI T n i ≠ 8 + q → ∃ k', f_X12_wantWord k 113 1 (nI (rkN q)) = some (nI 0, k') ∧ FR k k' [] [] [] F13 ∧ RLx k' (fkN T n i 2) (frI T n i)) := by
  have kl := rc.1
  have s := r_inW kl rc.2.1
  constructor
  · intro e
    obtain ⟨k', r, f, rc'⟩ := r_go rc
    exact ⟨k', by simp (disch := first | assumption | omega | decide | ((repeat first | apply lyI | apply lyJ | apply lywI | apply lywJ | apply csI | apply csJ | apply cswI | apply cswJ); assumption)) only [f_X12_wantWord, SM, LI, ↓li_m1, nI_add, pk_mul, nn_sub, nn_m1, nn_div, nn_rem, nn_nz, nn_mod, nJ_l, lN_add, lN_mul, nn_tb1, nI_bt, nn_and, nn_or, nn_xor, nn_shr, nn_1shl, nn_31, il_p, il_n, it_p, it_n, ie_p, ie_n, ie_b, ie_b1, ie_m, ie_mm, it_m, it_m0, il_m0, bI_rZ, Option.bind_some, bd2_some, Nat.add_zero, Nat.zero_add, if_true, if_false, Bool.false_eq_true, eq_self, hI_R, hJ_R, ng_t, ng_e, s, if_pos ((iw_e hq).mpr e), r], f, rc'⟩
  · intro e
    obtain ⟨k', r, f, rl⟩ := r_fail rc 2
    have rz : rZ (nI 0) = some (nI 0) := rfl
    have ne : ¬ iwI T n i = nI (rkN q) := fun z => e ((iw_e hq).mp z)
    exact ⟨k', by simp (disch := first | assumption | omega | decide | ((repeat first | apply lyI | apply lyJ | apply lywI | apply lywJ | apply csI | apply csJ | apply cswI | apply cswJ); assumption)) only [f_X12_wantWord, SM, LI, ↓li_m1, nI_add, pk_mul, nn_sub, nn_m1, nn_div, nn_rem, nn_nz, nn_mod, nJ_l, lN_add, lN_mul, nn_tb1, nI_bt, nn_and, nn_or, nn_xor, nn_shr, nn_1shl, nn_31, il_p, il_n, it_p, it_n, ie_p, ie_n, ie_b, ie_b1, ie_m, ie_mm, it_m, it_m0, il_m0, bI_rZ, Option.bind_some, bd2_some, Nat.add_zero, Nat.zero_add, if_true, if_false, Bool.false_eq_true, eq_self, hI_R, hJ_R, ng_t, ng_e, s, if_neg ne, r, rz], f, rl⟩
theorem r_number {k : aH} {T : Nat → Nat} {n i to lo hi : Nat} (rc : RC k T n i) (hb : hi < 100000) (hlo : lo < 100000) (hto : to < 2000) : ((tcI T n i = 2 ∧ lo ≤ nuI T n i ∧ nuI T n i ≤ hi) → ∃ k', f_X12_number k 113 (nI to) (nI lo) (nI hi) = some (nI 1, k') ∧ FR (hI k 114 to (nI (nuI T n i))) k' [] [] [] F13 ∧ RC k' T n (i + 1)) ∧ (¬ (tcI T n i = 2 ∧ lo ≤ nuI T n i ∧ nuI T n i ≤ hi) → ∃ k', f_X12_number k 113 (nI to) (nI lo) (nI hi) = some (nI 0, k') ∧ FR k k' [] [] [] F13 ∧ RLx k' (fkN T n i (if tcI T n i = 2 then 4 else 2)) (frI T n i)) := by
  have kl := rc.1
  have tl := tc_le (T := T) (n := n) (i := i)
  have rz : rZ (nI 0) = some (nI 0) := rfl
  obtain ⟨rt, e14, e15, e13, e16, -⟩ := id rc.2.1
  by_cases ht : tcI T n i = 2
  · have nl := nu_le ht
    have ec : clN (tcI T n i) = 3 := by rw [ht]; rfl
    rw [ec] at e13
    have q16 := e16 ht
    constructor
    · rintro ⟨-, u, v⟩
      have f0 : FR k (hI k 114 to (nI (nuI T n i))) [114] [] [] [] := FR.hI (by decide) (by decide) (by decide)
      obtain ⟨k', r, f, rc'⟩ := r_go (rc_fr f0 (by decide) (by decide) rc)
      exact ⟨k', by simp (disch := first | assumption | omega | decide | ((repeat first | apply lyI | apply lyJ | apply lywI | apply lywJ | apply csI | apply csJ | apply cswI | apply cswJ); assumption)) only [f_X12_number, SM, LI, ↓li_m1, nI_add, pk_mul, nn_sub, nn_m1, nn_div, nn_rem, nn_nz, nn_mod, nJ_l, lN_add, lN_mul, nn_tb1, nI_bt, nn_and, nn_or, nn_xor, nn_shr, nn_1shl, nn_31, il_p, il_n, it_p, it_n, ie_p, ie_n, ie_b, ie_b1, ie_m, ie_mm, it_m, it_m0, il_m0, bI_rZ, Option.bind_some, bd2_some, Nat.add_zero, Nat.zero_add, if_true, if_false, Bool.false_eq_true, eq_self, hI_R, hJ_R, ng_t, ng_e, e13, q16, r], f, rc'⟩
    · intro hx
      obtain ⟨k', r, f, rl⟩ := r_fail rc 4
      rw [if_pos ht]
      refine ⟨k', ?_, f, rl⟩
      rcases Nat.lt_or_ge (nuI T n i) lo with u | u
      · simp (disch := first | assumption | omega | decide | ((repeat first | apply lyI | apply lyJ | apply lywI | apply lywJ | apply csI | apply csJ | apply cswI | apply cswJ); assumption)) only [f_X12_number, f_X12_number_j30, SM, LI, ↓li_m1, nI_add, pk_mul, nn_sub, nn_m1, nn_div, nn_rem, nn_nz, nn_mod, nJ_l, lN_add, lN_mul, nn_tb1, nI_bt, nn_and, nn_or, nn_xor, nn_shr, nn_1shl, nn_31, il_p, il_n, it_p, it_n, ie_p, ie_n, ie_b, ie_b1, ie_m, ie_mm, it_m, it_m0, il_m0, bI_rZ, Option.bind_some, bd2_some, Nat.add_zero, Nat.zero_add, if_true, if_false, Bool.false_eq_true, eq_self, hI_R, hJ_R, ng_t, ng_e, e13, q16, r, rz]
      · have v : hi < nuI T n i := by omega
        simp (disch := first | assumption | omega | decide | ((repeat first | apply lyI | apply lyJ | apply lywI | apply lywJ | apply csI | apply csJ | apply cswI | apply cswJ); assumption)) only [f_X12_number, f_X12_number_j30, SM, LI, ↓li_m1, nI_add, pk_mul, nn_sub, nn_m1, nn_div, nn_rem, nn_nz, nn_mod, nJ_l, lN_add, lN_mul, nn_tb1, nI_bt, nn_and, nn_or, nn_xor, nn_shr, nn_1shl, nn_31, il_p, il_n, it_p, it_n, ie_p, ie_n, ie_b, ie_b1, ie_m, ie_mm, it_m, it_m0, il_m0, bI_rZ, Option.bind_some, bd2_some, Nat.add_zero, Nat.zero_add, if_true, if_false, Bool.false_eq_true, eq_self, hI_R, hJ_R, ng_t, ng_e, e13, q16, r, rz]
  · constructor
    · rintro ⟨e, -⟩
      exact absurd e ht
    · intro hx
      obtain ⟨k', r, f, rl⟩ := r_fail rc 2
      have ec : clN (tcI T n i) ≠ 3 ∧ clN (tcI T n i) < 5 := by
        unfold clN
        refine ⟨fun e => ?_, ?_⟩
        · repeat' split at e
          all_goals omega
        · repeat' split
          all_goals decide
      obtain ⟨ec1, ec2⟩ := ec
      rw [if_neg ht]
      exact ⟨k', by simp (disch := first | assumption | omega | decide | ((repeat first | apply lyI | apply lyJ | apply lywI | apply lywJ | apply csI | apply csJ | apply cswI | apply cswJ); assumption)) only [f_X12_number, SM, LI, ↓li_m1, nI_add, pk_mul, nn_sub, nn_m1, nn_div, nn_rem, nn_nz, nn_mod, nJ_l, lN_add, lN_mul, nn_tb1, nI_bt, nn_and, nn_or, nn_xor, nn_shr, nn_1shl, nn_31, il_p, il_n, it_p, it_n, ie_p, ie_n, ie_b, ie_b1, ie_m, ie_mm, it_m, it_m0, il_m0, bI_rZ, Option.bind_some, bd2_some, Nat.add_zero, Nat.zero_add, if_true, if_false, Bool.false_eq_true, eq_self, hI_R, hJ_R, ng_t, ng_e, e13, r, rz], f, rl⟩
