/-! ===== words of the reference ===== -/
/-- the reference's order of words, by the class's; and back -/
def krN (r : Nat) : Nat := [0, 2, 3, 6, 1, 4, 5].getD r r
def rkN (k : Nat) : Nat := [0, 4, 1, 2, 5, 6, 3].getD k k
theorem rk_ok : ∀ k, k < 27 → rkN k < 27 ∧ krN (rkN k) = k ∧ krN k < 27 ∧ rkN (krN k) = k := by decide +kernel
def krL (r : Nat) : List Nat := kwL (krN r)
def kyN : Nat → Nat
  | 0 => 1
  | r + 1 => kyN r + (krL r).length + 1
theorem ky_c : ∀ r, r < 27 → ∀ j, j < 9 → j < (krL r).length → scC 1 (nI (kyN r + j)) = some (nI ((krL r).getD j 0)) ∧ (krL r).getD j 0 ≠ 32 ∧ (krL r).getD j 0 < 256 := by decide +kernel
theorem ky_e : ∀ r, r < 27 → scC 1 (nI (kyN r + (krL r).length)) = some (nI 32) := by decide +kernel
theorem ky_n : scN 1 = some (nI (kyN 27)) ∧ ∀ r, r < 28 → kyN r < 200 := by decide +kernel
theorem ky_lt : ∀ r, r < 27 → kyN r < kyN 27 := by decide +kernel
theorem kr_len {r : Nat} (hr : r < 27) : (krL r).length ≤ 8 := (kw_ok _ (rk_ok r hr).2.2.1).1
theorem r_spc {k : aH} {r : Nat} (hr : r < 27) (x y : Int32) : f_X12_inWords_l25 k 113 1 x y (nI (kyN r)) = some (nI (kyN r + (krL r).length)) := by
  have l8 := kr_len hr
  have kb := ky_n.2 r (by omega)
  refine for0 (body := fun q : Int32 => f_X12_inWords_b25 k 113 1 x y q) (fun j => nI (kyN r + j)) (krL r).length (e := nI (kyN r + (krL r).length)) (by rw [Nat.add_zero]) (by omega) (fun j hj => ?_) ?_
  · obtain ⟨c1, c2, c3⟩ := ky_c r hr j (by omega) hj
    simp (disch := first | assumption | omega | decide | ((repeat first | apply lyI | apply lyJ | apply lywI | apply lywJ | apply csI | apply csJ | apply cswI | apply cswJ); assumption)) only [f_X12_inWords_b25, LI, ↓li_m1, nI_add, pk_mul, nn_sub, nn_m1, nn_div, nn_rem, nn_nz, nn_mod, nJ_l, lN_add, lN_mul, nn_tb1, nI_bt, nn_and, nn_or, nn_xor, nn_shr, nn_1shl, nn_31, il_p, il_n, it_p, it_n, ie_p, ie_n, ie_b, ie_b1, ie_m, ie_mm, it_m, it_m0, il_m0, bI_rZ, Option.bind_some, bd2_some, Nat.add_zero, Nat.zero_add, if_true, if_false, Bool.false_eq_true, eq_self, hI_R, hJ_R, ng_t, ng_e, c1]
    rfl
  · have c1 := ky_e r hr
    simp (disch := first | assumption | omega | decide | ((repeat first | apply lyI | apply lyJ | apply lywI | apply lywJ | apply csI | apply csJ | apply cswI | apply cswJ); assumption)) only [f_X12_inWords_b25, LI, ↓li_m1, nI_add, pk_mul, nn_sub, nn_m1, nn_div, nn_rem, nn_nz, nn_mod, nJ_l, lN_add, lN_mul, nn_tb1, nI_bt, nn_and, nn_or, nn_xor, nn_shr, nn_1shl, nn_31, il_p, il_n, it_p, it_n, ie_p, ie_n, ie_b, ie_b1, ie_m, ie_mm, it_m, it_m0, il_m0, bI_rZ, Option.bind_some, bd2_some, Nat.add_zero, Nat.zero_add, if_true, if_false, Bool.false_eq_true, eq_self, hI_R, hJ_R, ng_t, ng_e, c1]
/-- letter by letter -/
theorem r_like {k : aH} (kl : LAY k) {T : Nat → Nat} {n f r : Nat} (rx : RXT k T n) (e14 : k.2.1 113 14 = nI f) (hr : r < 27) (hf : f + (krL r).length ≤ n) (x : Int32) : f_X12_inWords_l68 k 113 1 x (nI (kyN r)) (nI (kyN r + (krL r).length)) (nI 1) (nI (kyN r)) = some (bI (krL r == wdL T f (krL r).length)) := by
  have l8 := kr_len hr
  have kb := ky_n.2 r (by omega)
  have n9 := rx.1
  have eqv : (krL r == wdL T f (krL r).length) = true ↔ ∀ j, j < (krL r).length → (krL r).getD j 0 = T (f + j) := by
    rw [beq_iff_eq]
    constructor
    · intro e j hj
      rw [← wd_get (T := T) (f := f) hj, ← e]
    · intro e
      apply List.ext_getElem?
      intro j
      rcases Nat.lt_or_ge j (krL r).length with u | u
      · have := e j u
        rw [← wd_get (T := T) (f := f) u] at this
        rw [List.getD_eq_getElem?_getD, List.getD_eq_getElem?_getD, List.getElem?_eq_getElem u, List.getElem?_eq_getElem (by rw [wd_len]; exact u)] at this
        rw [List.getElem?_eq_getElem u, List.getElem?_eq_getElem (by rw [wd_len]; exact u)]
        exact congrArg some this
      · rw [List.getElem?_eq_none u, List.getElem?_eq_none (by rw [wd_len]; exact u)]
  have : ∃ e, f_X12_inWords_l68 k 113 1 x (nI (kyN r)) (nI (kyN r + (krL r).length)) (nI 1) (nI (kyN r)) = some e ∧ e = bI (krL r == wdL T f (krL r).length) := by
    refine whl0 (fun i (s : Int32 × Int32) => (s = (nI 1, nI (kyN r + i)) ∧ i ≤ (krL r).length ∧ ∀ j, j < i → (krL r).getD j 0 = T (f + j)) ∨ (s = (nI 0, nI (kyN r + i)) ∧ (krL r == wdL T f (krL r).length) = false)) _ (krL r).length (by omega) (Or.inl ⟨by rw [Nat.add_zero], by omega, fun j hj => absurd hj (by omega)⟩) ?_
    rintro i _ (⟨rfl, hi, hj⟩ | ⟨rfl, hz⟩) hin
    · rcases Nat.lt_or_ge i (krL r).length with u | u
      · obtain ⟨c1, c2, c3⟩ := ky_c r hr i (by omega) u
        have b := r_byte (j := f + i) kl rx (by omega)
        have eb : btI T n (f + i) = nI (T (f + i)) := if_pos (by omega)
        rw [eb] at b
        have ar : f + (kyN r + i) - kyN r = f + i := by omega
        have tb := rx.2.2.1 (f + i)
        by_cases hx : (krL r).getD i 0 = T (f + i)
        · refine Or.inl ⟨(nI 1, nI (kyN r + (i + 1))), ?_, u, Or.inl ⟨rfl, by omega, fun j hj2 => ?_⟩⟩
          · rw [hx] at c1
            simp (disch := first | assumption | omega | decide | ((repeat first | apply lyI | apply lyJ | apply lywI | apply lywJ | apply csI | apply csJ | apply cswI | apply cswJ); assumption)) only [f_X12_inWords_b68, f_X12_inWords_j107, SM, LI, ↓li_m1, nI_add, pk_mul, nn_sub, nn_m1, nn_div, nn_rem, nn_nz, nn_mod, nJ_l, lN_add, lN_mul, nn_tb1, nI_bt, nn_and, nn_or, nn_xor, nn_shr, nn_1shl, nn_31, il_p, il_n, it_p, it_n, ie_p, ie_n, ie_b, ie_b1, ie_m, ie_mm, it_m, it_m0, il_m0, bI_rZ, Option.bind_some, bd2_some, Nat.add_zero, Nat.zero_add, if_true, if_false, Bool.false_eq_true, eq_self, hI_R, hJ_R, ng_t, ng_e, c1, e14, ar, b]
            rfl
          · rcases Nat.lt_or_ge j i with v | v
            · exact hj j v
            · rw [show j = i by omega]
              exact hx
        · refine Or.inl ⟨(nI 0, nI (kyN r + (i + 1))), ?_, u, Or.inr ⟨rfl, ?_⟩⟩
          · simp (disch := first | assumption | omega | decide | ((repeat first | apply lyI | apply lyJ | apply lywI | apply lywJ | apply csI | apply csJ | apply cswI | apply cswJ); assumption)) only [f_X12_inWords_b68, f_X12_inWords_j107, SM, LI, ↓li_m1, nI_add, pk_mul, nn_sub, nn_m1, nn_div, nn_rem, nn_nz, nn_mod, nJ_l, lN_add, lN_mul, nn_tb1, nI_bt, nn_and, nn_or, nn_xor, nn_shr, nn_1shl, nn_31, il_p, il_n, it_p, it_n, ie_p, ie_n, ie_b, ie_b1, ie_m, ie_mm, it_m, it_m0, il_m0, bI_rZ, Option.bind_some, bd2_some, Nat.add_zero, Nat.zero_add, if_true, if_false, Bool.false_eq_true, eq_self, hI_R, hJ_R, ng_t, ng_e, c1, e14, ar, b]
            rfl
          · rw [← Bool.not_eq_true]
            exact fun e => hx (eqv.mp e i u)
      · obtain rfl : i = (krL r).length := by omega
        refine Or.inr ⟨nI 1, ?_, by rw [eqv.mpr hj]; rfl⟩
        simp (disch := first | assumption | omega | decide | ((repeat first | apply lyI | apply lyJ | apply lywI | apply lywJ | apply csI | apply csJ | apply cswI | apply cswJ); assumption)) only [f_X12_inWords_b68, LI, ↓li_m1, nI_add, pk_mul, nn_sub, nn_m1, nn_div, nn_rem, nn_nz, nn_mod, nJ_l, lN_add, lN_mul, nn_tb1, nI_bt, nn_and, nn_or, nn_xor, nn_shr, nn_1shl, nn_31, il_p, il_n, it_p, it_n, ie_p, ie_n, ie_b, ie_b1, ie_m, ie_mm, it_m, it_m0, il_m0, bI_rZ, Option.bind_some, bd2_some, Nat.add_zero, Nat.zero_add, if_true, if_false, Bool.false_eq_true, eq_self, hI_R, hJ_R, ng_t, ng_e]
    · refine Or.inr ⟨nI 0, ?_, by rw [hz]; rfl⟩
      show f_X12_inWords_b68 k 113 1 x (nI (kyN r)) (nI (kyN r + (krL r).length)) (nI 0) (nI (kyN r + i)) = _
      rcases Nat.lt_or_ge i (krL r).length with u | u
      · simp (disch := first | assumption | omega | decide | ((repeat first | apply lyI | apply lyJ | apply lywI | apply lywJ | apply csI | apply csJ | apply cswI | apply cswJ); assumption)) only [f_X12_inWords_b68, LI, ↓li_m1, nI_add, pk_mul, nn_sub, nn_m1, nn_div, nn_rem, nn_nz, nn_mod, nJ_l, lN_add, lN_mul, nn_tb1, nI_bt, nn_and, nn_or, nn_xor, nn_shr, nn_1shl, nn_31, il_p, il_n, it_p, it_n, ie_p, ie_n, ie_b, ie_b1, ie_m, ie_mm, it_m, it_m0, il_m0, bI_rZ, Option.bind_some, bd2_some, Nat.add_zero, Nat.zero_add, if_true, if_false, Bool.false_eq_true, eq_self, hI_R, hJ_R, ng_t, ng_e]
      · simp (disch := first | assumption | omega | decide | ((repeat first | apply lyI | apply lyJ | apply lywI | apply lywJ | apply csI | apply csJ | apply cswI | apply cswJ); assumption)) only [f_X12_inWords_b68, LI, ↓li_m1, nI_add, pk_mul, nn_sub, nn_m1, nn_div, nn_rem, nn_nz, nn_mod, nJ_l, lN_add, lN_mul, nn_tb1, nI_bt, nn_and, nn_or, nn_xor, nn_shr, nn_1shl, nn_31, il_p, il_n, it_p, it_n, ie_p, ie_n, ie_b, ie_b1, ie_m, ie_mm, it_m, it_m0, il_m0, bI_rZ, Option.bind_some, bd2_some, Nat.add_zero, Nat.zero_add, if_true, if_false, Bool.false_eq_true, eq_self, hI_R, hJ_R, ng_t, ng_e]
  obtain ⟨_, h1, rfl⟩ := this
  exact h1
/-- which of the words -/
def iwI (T : Nat → Nat) (n i : Nat) : Int32 := if 8 ≤ tcI T n i then nI (rkN (tcI T n i - 8)) else m1
theorem tc_w {T : Nat → Nat} {n i : Nat} (h : 6 ≤ tcI T n i) : frI T n i < n ∧ chL (T (frI T n i)) = true ∧ tpo T n (i + 1) = rnE chL T n (frI T n i) ∧ (tcI T n i = 7 ∨ (rnE chL T n (frI T n i) - frI T n i ≤ 8 ∧ ((∃ q, q < 27 ∧ tcI T n i = 8 + q ∧ wdI T n i = kwL q) ∨ (tcI T n i = 6 ∧ ∀ q, q < 27 → wdI T n i ≠ kwL q)))) := by
  have hn : ¬ n ≤ frI T n i := fun e => by rw [tc_0.mpr e] at h; omega
  cases hL : chL (T (frI T n i)) with
  | false =>
    exfalso
    unfold tcI tcF at h
    rw [if_neg hn, if_neg (by rw [hL]; decide)] at h
    split at h
    · split at h <;> omega
    · split at h
      · omega
      · split at h
        · omega
        · split at h <;> omega
  | true =>
    refine ⟨by omega, rfl, ?_, ?_⟩
    · rw [tpo_s]
      unfold tkX
      rw [if_neg hn, if_pos hL]
    · have e : tcI T n i = if 8 < rnE chL T n (frI T n i) - frI T n i then 7 else match kwI (wdI T n i) with | some k => 8 + k | none => 6 := by
        unfold tcI tcF
        rw [if_neg hn, if_pos hL]
        rfl
      rcases Nat.lt_or_ge 8 (rnE chL T n (frI T n i) - frI T n i) with u | u
      · rw [if_pos u] at e
        exact Or.inl e
      · rw [if_neg (by omega)] at e
        refine Or.inr ⟨u, ?_⟩
        cases hk : kwI (wdI T n i) with
        | some q =>
          rw [hk] at e
          obtain ⟨h1, h2, -⟩ := firstB_s.mp hk
          exact Or.inl ⟨q, h1, e, (beq_iff_eq.mp h2).symm⟩
        | none =>
          rw [hk] at e
          refine Or.inr ⟨e, fun q hq hh => ?_⟩
          have := firstB_n.mp hk q hq
          rw [hh] at this
          simp at this
theorem r_inW {k : aH} (kl : LAY k) {T : Nat → Nat} {n i : Nat} (rx : RX k T n i) : f_X12_inWords k 113 1 = some (iwI T n i) := by
  obtain ⟨rt, e14, e15, e13, -, -⟩ := id rx
  have n9 := rt.1
  have tl := tc_le (T := T) (n := n) (i := i)
  rcases Nat.lt_or_ge (tcI T n i) 6 with u | u
  · have cn : clN (tcI T n i) ≠ 2 ∧ clN (tcI T n i) < 5 := by
      rcases (show tcI T n i = 0 ∨ tcI T n i = 1 ∨ tcI T n i = 2 ∨ tcI T n i = 3 ∨ tcI T n i = 4 ∨ tcI T n i = 5 by omega) with e | e | e | e | e | e <;> rw [e] <;> decide
    obtain ⟨cn1, cn2⟩ := cn
    have ei : iwI T n i = m1 := if_neg (by omega)
    rw [ei]
    simp (disch := first | assumption | omega | decide | ((repeat first | apply lyI | apply lyJ | apply lywI | apply lywJ | apply csI | apply csJ | apply cswI | apply cswJ); assumption)) only [f_X12_inWords, SM, LI, ↓li_m1, nI_add, pk_mul, nn_sub, nn_m1, nn_div, nn_rem, nn_nz, nn_mod, nJ_l, lN_add, lN_mul, nn_tb1, nI_bt, nn_and, nn_or, nn_xor, nn_shr, nn_1shl, nn_31, il_p, il_n, it_p, it_n, ie_p, ie_n, ie_b, ie_b1, ie_m, ie_mm, it_m, it_m0, il_m0, bI_rZ, Option.bind_some, bd2_some, Nat.add_zero, Nat.zero_add, if_true, if_false, Bool.false_eq_true, eq_self, hI_R, hJ_R, ng_t, ng_e, e13]
  · obtain ⟨w1, w2, w3, w4⟩ := tc_w u
    have cl : clN (tcI T n i) = 2 := by
      unfold clN
      rw [if_neg (by omega), if_neg (by omega), if_neg (by omega), if_neg (by omega)]
    obtain ⟨a1, a2, a3, a4⟩ := rn_in (p := chL) (T := T) (n := n) (e := frI T n i) (by omega)
    rw [w3] at e15
    have key : ∀ r, r < 27 → ((krL r == wdI T n i) = true → (krL r).length = rnE chL T n (frI T n i) - frI T n i) := fun r hr e => by
      have := congrArg List.length (beq_iff_eq.mp e)
      rw [show (wdI T n i).length = rnE chL T n (frI T n i) - frI T n i from wd_len] at this
      exact this
    have step : ∀ r, r < 27 → f_X12_inWords_b14 k 113 1 (nI r) (nI (kyN r)) = if (krL r == wdI T n i) = true then some (.inr (.inl (nI r))) else some (.inl (nI (r + 1), nI (kyN (r + 1)))) := fun r hr => by
      have l8 := kr_len hr
      have kb := ky_n.2 r (by omega)
      have sn := ky_n.1
      have kl27 := ky_lt r hr
      have k27 := ky_n.2 27 (by omega)
      have rs := r_spc (k := k) hr (nI r) (nI (kyN r))
      have nx : kyN (r + 1) = kyN r + (krL r).length + 1 := rfl
      by_cases hl : (krL r).length = rnE chL T n (frI T n i) - frI T n i
      · have rl := r_like kl rt e14 hr (by omega) (nI r)
        rw [show wdL T (frI T n i) (krL r).length = wdI T n i by rw [hl]; rfl] at rl
        have q : nI (kyN r + (krL r).length) - nI (kyN r) = nI (rnE chL T n (frI T n i)) - nI (frI T n i) := by
          rw [nn_sub (by omega), nn_sub (by omega), ← hl, Nat.add_sub_cancel_left]
        cases hb : (krL r == wdI T n i) with
        | true =>
          rw [hb] at rl
          rw [if_pos rfl]
          simp (disch := first | assumption | omega | decide | ((repeat first | apply lyI | apply lyJ | apply lywI | apply lywJ | apply csI | apply csJ | apply cswI | apply cswJ); assumption)) only [f_X12_inWords_b14, f_X12_inWords_j63, f_X12_inWords_j115, SM, LI, ↓li_m1, nI_add, pk_mul, nn_m1, nn_div, nn_rem, nn_nz, nn_mod, nJ_l, lN_add, lN_mul, nn_tb1, nI_bt, nn_and, nn_or, nn_xor, nn_shr, nn_1shl, nn_31, il_p, il_n, it_p, it_n, ie_p, ie_n, ie_b, ie_b1, ie_m, ie_mm, it_m, it_m0, il_m0, bI_rZ, Option.bind_some, bd2_some, Nat.add_zero, Nat.zero_add, if_true, if_false, Bool.false_eq_true, eq_self, hI_R, hJ_R, ng_t, ng_e, sn, rs, e15, e14, if_pos q, rl, bI_t]
        | false =>
          rw [hb] at rl
          rw [if_neg (by decide), nx]
          simp (disch := first | assumption | omega | decide | ((repeat first | apply lyI | apply lyJ | apply lywI | apply lywJ | apply csI | apply csJ | apply cswI | apply cswJ); assumption)) only [f_X12_inWords_b14, f_X12_inWords_j63, f_X12_inWords_j115, SM, LI, ↓li_m1, nI_add, pk_mul, nn_m1, nn_div, nn_rem, nn_nz, nn_mod, nJ_l, lN_add, lN_mul, nn_tb1, nI_bt, nn_and, nn_or, nn_xor, nn_shr, nn_1shl, nn_31, il_p, il_n, it_p, it_n, ie_p, ie_n, ie_b, ie_b1, ie_m, ie_mm, it_m, it_m0, il_m0, bI_rZ, Option.bind_some, bd2_some, Nat.add_zero, Nat.zero_add, if_true, if_false, Bool.false_eq_true, eq_self, hI_R, hJ_R, ng_t, ng_e, sn, rs, e15, e14, if_pos q, rl, bI_f]
      · have hb : (krL r == wdI T n i) = false := by
          rw [← Bool.not_eq_true]
          exact fun e => hl (key r hr e)
        have q : ¬ nI (kyN r + (krL r).length) - nI (kyN r) = nI (rnE chL T n (frI T n i)) - nI (frI T n i) := fun e => by
          rw [nn_sub (by omega), nn_sub (by omega)] at e
          have := (nI_eq (by omega) (by omega)).mp e
          omega
        have rl : f_X12_inWords_l68 k 113 1 (nI r) (nI (kyN r)) (nI (kyN r + (krL r).length)) (nI 0) (nI (kyN r)) = some (nI 0) := by
          refine for0 (body := fun q : Int32 × Int32 => f_X12_inWords_b68 k 113 1 (nI r) (nI (kyN r)) (nI (kyN r + (krL r).length)) q.1 q.2) (fun _ => (nI 0, nI (kyN r))) 0 (e := nI 0) rfl (by omega) (fun j hj => absurd hj (by omega)) ?_
          rcases Nat.eq_zero_or_pos (krL r).length with v | v
          · simp (disch := first | assumption | omega | decide | ((repeat first | apply lyI | apply lyJ | apply lywI | apply lywJ | apply csI | apply csJ | apply cswI | apply cswJ); assumption)) only [f_X12_inWords_b68, LI, ↓li_m1, nI_add, pk_mul, nn_sub, nn_m1, nn_div, nn_rem, nn_nz, nn_mod, nJ_l, lN_add, lN_mul, nn_tb1, nI_bt, nn_and, nn_or, nn_xor, nn_shr, nn_1shl, nn_31, il_p, il_n, it_p, it_n, ie_p, ie_n, ie_b, ie_b1, ie_m, ie_mm, it_m, it_m0, il_m0, bI_rZ, Option.bind_some, bd2_some, Nat.add_zero, Nat.zero_add, if_true, if_false, Bool.false_eq_true, eq_self, hI_R, hJ_R, ng_t, ng_e]
          · simp (disch := first | assumption | omega | decide | ((repeat first | apply lyI | apply lyJ | apply lywI | apply lywJ | apply csI | apply csJ | apply cswI | apply cswJ); assumption)) only [f_X12_inWords_b68, LI, ↓li_m1, nI_add, pk_mul, nn_sub, nn_m1, nn_div, nn_rem, nn_nz, nn_mod, nJ_l, lN_add, lN_mul, nn_tb1, nI_bt, nn_and, nn_or, nn_xor, nn_shr, nn_1shl, nn_31, il_p, il_n, it_p, it_n, ie_p, ie_n, ie_b, ie_b1, ie_m, ie_mm, it_m, it_m0, il_m0, bI_rZ, Option.bind_some, bd2_some, Nat.add_zero, Nat.zero_add, if_true, if_false, Bool.false_eq_true, eq_self, hI_R, hJ_R, ng_t, ng_e]
        rw [hb, if_neg (by decide), nx]
        simp (disch := first | assumption | omega | decide | ((repeat first | apply lyI | apply lyJ | apply lywI | apply lywJ | apply csI | apply csJ | apply cswI | apply cswJ); assumption)) only [f_X12_inWords_b14, f_X12_inWords_j63, f_X12_inWords_j115, SM, LI, ↓li_m1, nI_add, pk_mul, nn_m1, nn_div, nn_rem, nn_nz, nn_mod, nJ_l, lN_add, lN_mul, nn_tb1, nI_bt, nn_and, nn_or, nn_xor, nn_shr, nn_1shl, nn_31, il_p, il_n, it_p, it_n, ie_p, ie_n, ie_b, ie_b1, ie_m, ie_mm, it_m, it_m0, il_m0, bI_rZ, Option.bind_some, bd2_some, Nat.add_zero, Nat.zero_add, if_true, if_false, Bool.false_eq_true, eq_self, hI_R, hJ_R, ng_t, ng_e, sn, rs, e15, e14, if_neg q, rl]
    have lp : f_X12_inWords_l14 k 113 1 (nI 0) (nI 1) = some (match firstB (fun r => krL r == wdI T n i) 27 with | some r => .inl (nI r) | none => .inr ()) := by
      refine srch (body := fun q : Int32 × Int32 => f_X12_inWords_b14 k 113 1 q.1 q.2) (fun r => (nI r, nI (kyN r))) (fun r => krL r == wdI T n i) 27 (fun r => (Sum.inl (nI r) : Int32 ⊕ Unit)) (Sum.inr ()) rfl (by omega) (fun j hj hx => ?_) (fun j hj hx => ?_) ?_
      · rw [step j hj, hx, if_neg (by decide)]
      · rw [step j hj, hx, if_pos rfl]
      · have sn := ky_n.1
        have k27 := ky_n.2 27 (by omega)
        simp (disch := first | assumption | omega | decide | ((repeat first | apply lyI | apply lyJ | apply lywI | apply lywJ | apply csI | apply csJ | apply cswI | apply cswJ); assumption)) only [f_X12_inWords_b14, LI, ↓li_m1, nI_add, pk_mul, nn_sub, nn_m1, nn_div, nn_rem, nn_nz, nn_mod, nJ_l, lN_add, lN_mul, nn_tb1, nI_bt, nn_and, nn_or, nn_xor, nn_shr, nn_1shl, nn_31, il_p, il_n, it_p, it_n, ie_p, ie_n, ie_b, ie_b1, ie_m, ie_mm, it_m, it_m0, il_m0, bI_rZ, Option.bind_some, bd2_some, Nat.add_zero, Nat.zero_add, if_true, if_false, Bool.false_eq_true, eq_self, hI_R, hJ_R, ng_t, ng_e, sn]
    have fin : (match firstB (fun r => krL r == wdI T n i) 27 with | some r => nI r | none => m1) = iwI T n i := by
      cases hf : firstB (fun r => krL r == wdI T n i) 27 with
      | some r =>
        obtain ⟨r1, r2, -⟩ := firstB_s.mp hf
        have e2 := beq_iff_eq.mp r2
        have ok := rk_ok r r1
        have hlen := key r r1 r2
        have l8 := kr_len r1
        rcases w4 with e7 | ⟨l8', ⟨q, q1, q2, q3⟩ | ⟨q2, q3⟩⟩
        · exfalso
          have e : tcI T n i = if 8 < rnE chL T n (frI T n i) - frI T n i then 7 else match kwI (wdI T n i) with | some k => 8 + k | none => 6 := by
            unfold tcI tcF
            rw [if_neg (by omega), if_pos w2]
            rfl
          rw [if_neg (by omega)] at e
          cases hk : kwI (wdI T n i) with
          | some z => rw [hk] at e; have : tcI T n i = 8 + z := e; omega
          | none => rw [hk] at e; have : tcI T n i = 6 := e; omega
        · have : krN r = q := kw_inj _ ok.2.2.1 _ q1 (e2.trans q3)
          have e : iwI T n i = nI (rkN (tcI T n i - 8)) := if_pos (by omega)
          rw [e, show tcI T n i - 8 = q by omega, ← this, ok.2.2.2]
        · exact absurd e2.symm (q3 _ ok.2.2.1)
      | none =>
        have hn := firstB_n.mp hf
        rcases w4 with e7 | ⟨l8', ⟨q, q1, q2, q3⟩ | ⟨q2, q3⟩⟩
        · exact (if_neg (by omega)).symm
        · have ok := rk_ok q q1
          have := hn (rkN q) ok.1
          rw [show krL (rkN q) = kwL q by unfold krL; rw [ok.2.1], q3] at this
          simp at this
        · exact (if_neg (by omega)).symm
    rw [cl] at e13
    rw [← fin]
    cases hf : firstB (fun r => krL r == wdI T n i) 27 with
    | some r =>
      rw [hf] at lp
      simp (disch := first | assumption | omega | decide | ((repeat first | apply lyI | apply lyJ | apply lywI | apply lywJ | apply csI | apply csJ | apply cswI | apply cswJ); assumption)) only [f_X12_inWords, SM, LI, ↓li_m1, nI_add, pk_mul, nn_sub, nn_m1, nn_div, nn_rem, nn_nz, nn_mod, nJ_l, lN_add, lN_mul, nn_tb1, nI_bt, nn_and, nn_or, nn_xor, nn_shr, nn_1shl, nn_31, il_p, il_n, it_p, it_n, ie_p, ie_n, ie_b, ie_b1, ie_m, ie_mm, it_m, it_m0, il_m0, bI_rZ, Option.bind_some, bd2_some, Nat.add_zero, Nat.zero_add, if_true, if_false, Bool.false_eq_true, eq_self, hI_R, hJ_R, ng_t, ng_e, e13, lp]
    | none =>
      rw [hf] at lp
      simp (disch := first | assumption | omega | decide | ((repeat first | apply lyI | apply lyJ | apply lywI | apply lywJ | apply csI | apply csJ | apply cswI | apply cswJ); assumption)) only [f_X12_inWords, SM, LI, ↓li_m1, nI_add, pk_mul, nn_sub, nn_m1, nn_div, nn_rem, nn_nz, nn_mod, nJ_l, lN_add, lN_mul, nn_tb1, nI_bt, nn_and, nn_or, nn_xor, nn_shr, nn_1shl, nn_31, il_p, il_n, it_p, it_n, ie_p, ie_n, ie_b, ie_b1, ie_m, ie_mm, it_m, it_m0, il_m0, bI_rZ, Option.bind_some, bd2_some, Nat.add_zero, Nat.zero_add, if_true, if_false, Bool.false_eq_true, eq_self, hI_R, hJ_R, ng_t, ng_e, e13, lp]
theorem iw_e {T : Nat → Nat} {n i q : Nat} (hq : q < 27) : iwI T n i = nI (rkN q) ↔ tcI T n i = 8 + q := by
  have tl := tc_le (T := T) (n := n) (i := i)
  unfold iwI
  rcases Nat.lt_or_ge (tcI T n i) 8 with u | u
  · rw [if_neg (by omega)]
    constructor
    · intro e
      exact absurd e (fun e => nI_pos (n := rkN q) (by have := (rk_ok q hq).1; omega) (by rw [← e]; decide))
    · omega
  · rw [if_pos u]
    have o1 := rk_ok q hq
    have o2 := rk_ok (tcI T n i - 8) (by omega)
    constructor
    · intro e
      have := (nI_eq (by omega) (by omega)).mp e
      have h3 : krN (rkN (tcI T n i - 8)) = krN (rkN q) := by rw [this]
      rw [o1.2.1, o2.2.1] at h3
      omega
    · intro e
      rw [show tcI T n i - 8 = q by omega]
theorem r_isN {k : aH} (kl : LAY k) {T : Nat → Nat} {n i : Nat} (rx : RX k T n i) : f_X12_isName k 113 1 = some (bI (decide (tcI T n i = 6))) := by
  obtain ⟨rt, e14, e15, e13, -, -⟩ := id rx
  have n9 := rt.1
  have tl := tc_le (T := T) (n := n) (i := i)
  have iw := r_inW kl rx
  rcases Nat.lt_or_ge (tcI T n i) 6 with u | u
  · have cn : clN (tcI T n i) ≠ 2 ∧ clN (tcI T n i) < 5 := by
      rcases (show tcI T n i = 0 ∨ tcI T n i = 1 ∨ tcI T n i = 2 ∨ tcI T n i = 3 ∨ tcI T n i = 4 ∨ tcI T n i = 5 by omega) with e | e | e | e | e | e <;> rw [e] <;> decide
    obtain ⟨cn1, cn2⟩ := cn
    rw [decide_eq_false (by omega)]
    simp (disch := first | assumption | omega | decide | ((repeat first | apply lyI | apply lyJ | apply lywI | apply lywJ | apply csI | apply csJ | apply cswI | apply cswJ); assumption)) only [f_X12_isName, SM, LI, ↓li_m1, nI_add, pk_mul, nn_sub, nn_m1, nn_div, nn_rem, nn_nz, nn_mod, nJ_l, lN_add, lN_mul, nn_tb1, nI_bt, nn_and, nn_or, nn_xor, nn_shr, nn_1shl, nn_31, il_p, il_n, it_p, it_n, ie_p, ie_n, ie_b, ie_b1, ie_m, ie_mm, it_m, it_m0, il_m0, bI_rZ, Option.bind_some, bd2_some, Nat.add_zero, Nat.zero_add, if_true, if_false, Bool.false_eq_true, eq_self, hI_R, hJ_R, ng_t, ng_e, e13]
    rfl
  · obtain ⟨w1, w2, w3, w4⟩ := tc_w u
    obtain ⟨a1, a2, a3, a4⟩ := rn_in (p := chL) (T := T) (n := n) (e := frI T n i) (by omega)
    have cl : clN (tcI T n i) = 2 := by
      unfold clN
      rw [if_neg (by omega), if_neg (by omega), if_neg (by omega), if_neg (by omega)]
    rw [cl] at e13
    rw [w3] at e15
    rcases Nat.lt_or_ge 8 (rnE chL T n (frI T n i) - frI T n i) with v | v
    · have : tcI T n i ≠ 6 := fun e => by
        rcases w4 with e7 | ⟨l8, -⟩ <;> omega
      rw [decide_eq_false this]
      simp (disch := first | assumption | omega | decide | ((repeat first | apply lyI | apply lyJ | apply lywI | apply lywJ | apply csI | apply csJ | apply cswI | apply cswJ); assumption)) only [f_X12_isName, SM, LI, ↓li_m1, nI_add, pk_mul, nn_sub, nn_m1, nn_div, nn_rem, nn_nz, nn_mod, nJ_l, lN_add, lN_mul, nn_tb1, nI_bt, nn_and, nn_or, nn_xor, nn_shr, nn_1shl, nn_31, il_p, il_n, it_p, it_n, ie_p, ie_n, ie_b, ie_b1, ie_m, ie_mm, it_m, it_m0, il_m0, bI_rZ, Option.bind_some, bd2_some, Nat.add_zero, Nat.zero_add, if_true, if_false, Bool.false_eq_true, eq_self, hI_R, hJ_R, ng_t, ng_e, e13, e15, e14]
      rfl
    · rcases w4 with e7 | ⟨l8, ⟨q, q1, q2, q3⟩ | ⟨q2, q3⟩⟩
      · exfalso
        have e : tcI T n i = if 8 < rnE chL T n (frI T n i) - frI T n i then 7 else match kwI (wdI T n i) with | some k => 8 + k | none => 6 := by
          unfold tcI tcF
          rw [if_neg (by omega), if_pos w2]
          rfl
        rw [if_neg (by omega)] at e
        cases hk : kwI (wdI T n i) with
        | some z => rw [hk] at e; have : tcI T n i = 8 + z := e; omega
        | none => rw [hk] at e; have : tcI T n i = 6 := e; omega
      · have ok := rk_ok q q1
        have ei : iwI T n i = nI (rkN q) := (iw_e q1).mpr q2
        rw [ei] at iw
        rw [decide_eq_false (by omega)]
        simp (disch := first | assumption | omega | decide | ((repeat first | apply lyI | apply lyJ | apply lywI | apply lywJ | apply csI | apply csJ | apply cswI | apply cswJ); assumption)) only [f_X12_isName, SM, LI, ↓li_m1, nI_add, pk_mul, nn_sub, nn_m1, nn_div, nn_rem, nn_nz, nn_mod, nJ_l, lN_add, lN_mul, nn_tb1, nI_bt, nn_and, nn_or, nn_xor, nn_shr, nn_1shl, nn_31, il_p, il_n, it_p, it_n, ie_p, ie_n, ie_b, ie_b1, ie_m, ie_mm, it_m, it_m0, il_m0, bI_rZ, Option.bind_some, bd2_some, Nat.add_zero, Nat.zero_add, if_true, if_false, Bool.false_eq_true, eq_self, hI_R, hJ_R, ng_t, ng_e, e13, e15, e14, iw]
        rfl
      · have ei : iwI T n i = m1 := if_neg (by omega)
        rw [ei] at iw
        rw [decide_eq_true q2]
        simp (disch := first | assumption | omega | decide | ((repeat first | apply lyI | apply lyJ | apply lywI | apply lywJ | apply csI | apply csJ | apply cswI | apply cswJ); assumption)) only [f_X12_isName, SM, LI, ↓li_m1, nI_add, pk_mul, nn_sub, nn_m1, nn_div, nn_rem, nn_nz, nn_mod, nJ_l, lN_add, lN_mul, nn_tb1, nI_bt, nn_and, nn_or, nn_xor, nn_shr, nn_1shl, nn_31, il_p, il_n, it_p, it_n, ie_p, ie_n, ie_b, ie_b1, ie_m, ie_mm, it_m, it_m0, il_m0, bI_rZ, Option.bind_some, bd2_some, Nat.add_zero, Nat.zero_add, if_true, if_false, Bool.false_eq_true, eq_self, hI_R, hJ_R, ng_t, ng_e, e13, e15, e14, iw]
        rfl
