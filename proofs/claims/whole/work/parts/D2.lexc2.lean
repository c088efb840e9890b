/-! ===== the class's tokens, on ===== -/
theorem bd3_some {α β γ δ : Type} {a : α} {b : β} {c : γ} {k : α → β → γ → Option δ} : bd3 (some (a, b, c)) k = k a b c := rfl
theorem tkX_b {T : Nat → Nat} {n f : Nat} (hf : f ≤ n) : f ≤ tkX T n f ∧ tkX T n f ≤ n ∧ (f < n → f < tkX T n f) := by
  unfold tkX
  rcases Nat.lt_or_ge f n with u | u
  · rw [if_neg (by omega)]
    cases h1 : chL (T f) with
    | true =>
      rw [if_pos rfl, rn_s u h1]
      obtain ⟨a1, a2, -⟩ := rn_in (p := chL) (T := T) (n := n) (e := f + 1) (by omega)
      omega
    | false =>
      rw [if_neg (by decide)]
      cases h2 : chD (T f) with
      | true =>
        rw [if_pos rfl, rn_s u h2]
        obtain ⟨a1, a2, -⟩ := rn_in (p := chD) (T := T) (n := n) (e := f + 1) (by omega)
        omega
      | false =>
        rw [if_neg (by decide)]
        omega
  · rw [if_pos u]
    omega
theorem tpo_le {T : Nat → Nat} {n : Nat} : ∀ i, tpo T n i ≤ n
  | 0 => Nat.zero_le n
  | i + 1 => (tkX_b (rn_in (tpo_le i)).2.1).2.1
theorem fr_le {T : Nat → Nat} {n i : Nat} : tpo T n i ≤ frI T n i ∧ frI T n i ≤ n := ⟨(rn_in (tpo_le i)).1, (rn_in (tpo_le i)).2.1⟩
theorem tc_0 {T : Nat → Nat} {n i : Nat} : tcI T n i = 0 ↔ n ≤ frI T n i := by
  unfold tcI tcF
  constructor
  · intro h
    rcases Nat.lt_or_ge (frI T n i) n with u | u
    · rw [if_neg (by omega)] at h
      split at h
      · split at h
        · cases h
        · split at h
          · omega
          · cases h
      · split at h
        · split at h <;> cases h
        · split at h
          · cases h
          · split at h
            · cases h
            · split at h <;> cases h
    · exact u
  · intro h
    rw [if_pos h]
theorem tpo_up {T : Nat → Nat} {n i : Nat} (h : tcI T n i ≠ 0) : tpo T n i < tpo T n (i + 1) := by
  have h1 : ¬ n ≤ frI T n i := fun e => h (tc_0.mpr e)
  have h2 := (tkX_b (T := T) (n := n) (f := frI T n i) (by omega)).2.2 (by omega)
  have h3 := (fr_le (T := T) (n := n) (i := i)).1
  rw [tpo_s]
  omega
theorem tpo_ge {T : Nat → Nat} {n : Nat} : ∀ i, (∀ j, j < i → tcI T n j ≠ 0) → i ≤ tpo T n i
  | 0, _ => Nat.zero_le _
  | i + 1, h => by
    have := tpo_ge i (fun j hj => h j (by omega))
    have := tpo_up (h i (by omega))
    omega
/-- the text's last token: its end, or one that no token begins so -/
theorem t_end (T : Nat → Nat) (n : Nat) : ∃ m, m ≤ n ∧ tcI T n m ≤ 1 ∧ ∀ i, i < m → 2 ≤ tcI T n i := by
  cases hf : firstB (fun i => decide (tcI T n i ≤ 1)) (n + 1) with
  | none =>
    have h := firstB_n.mp hf
    have := tpo_ge (T := T) (n := n) (n + 1) (fun j hj e => by
      have := h j hj
      rw [e] at this
      simp at this)
    have := tpo_le (T := T) (n := n) (n + 1)
    omega
  | some m =>
    obtain ⟨h1, h2, h3⟩ := firstB_s.mp hf
    refine ⟨m, by omega, by simpa using h2, fun i hi => ?_⟩
    have := h3 i hi
    simp at this
    omega
theorem x_scan {h : aH} (hl : LAY h) {T : Nat → Nat} (ht : TT h T) (hw : WDS h) {n i : Nat} (hn : n ≤ 900) (hi : i ≤ 900) (e7 : h.2.1 4 7 = nI n) (e8 : h.2.1 4 8 = nI (tpo T n i)) : ∃ h', f_X4_scan h 4 (nI i) = some (nI (tcI T n i), h') ∧ FR h h' [4, 8, 9] [10] [] [] ∧ h'.2.1 4 8 = nI (tpo T n (i + 1)) ∧ (∀ k, k ≠ 8 → h'.2.1 4 k = h.2.1 4 k) ∧ h'.2.1 8 i = nI (frI T n i) ∧ (∀ k, k ≠ i → h'.2.1 8 k = h.2.1 8 k ∧ h'.2.1 9 k = h.2.1 9 k ∧ h'.2.2.1 10 k = h.2.2.1 10 k) ∧ (tcI T n i = 2 → h'.2.1 9 i = nI (nuI T n i)) ∧ (tcI T n i = 6 → h'.2.2.1 10 i = lN (c5 (wdI T n i))) := by
  have r0 := x_skip hl ht hn (tpo_le i) e7 e8 (nI i)
  have fb := (fr_le (T := T) (n := n) (i := i)).2
  rw [show rnE chB T n (tpo T n i) = frI T n i from rfl] at r0
  have l3 : LAY (hI (hI h 4 8 (nI (frI T n i))) 8 i (nI (frI T n i))) := hl
  have f3 : FR h (hI (hI h 4 8 (nI (frI T n i))) 8 i (nI (frI T n i))) [4, 8, 9] [10] [] [] := (FR.hI (by decide) (by decide) (by decide)).tr (FR.hI (by decide) (by decide) (by decide))
  have t3 : TT (hI (hI h 4 8 (nI (frI T n i))) 8 i (nI (frI T n i))) T := ht
  have z7 : (hI (hI h 4 8 (nI (frI T n i))) 8 i (nI (frI T n i))).2.1 4 7 = nI n := e7
  have z8 : (hI (hI h 4 8 (nI (frI T n i))) 8 i (nI (frI T n i))).2.1 4 8 = nI (frI T n i) := rfl
  have hd : ∀ r, f_X4_scan_j39 (hI h 4 8 (nI (frI T n i))) 4 (nI i) = some r → f_X4_scan h 4 (nI i) = some r := fun r hr => by
    unfold f_X4_scan
    rw [r0, Option.bind_some, hr]
  have k4 : ∀ (x : Int32) k, k ≠ 8 → (hI (hI (hI h 4 8 (nI (frI T n i))) 8 i (nI (frI T n i))) 4 8 x).2.1 4 k = h.2.1 4 k := fun x k hk => by
    rw [rI_nk hk, rI_ne (by decide), rI_nk hk]
  rcases Nat.lt_or_ge (frI T n i) n with u | u
  · have b := ht.2 (frI T n i)
    have tb := ht.1 (frI T n i)
    have pl := x_isL (h := hI (hI h 4 8 (nI (frI T n i))) 8 i (nI (frI T n i))) tb
    have pd := x_isD (h := hI (hI h 4 8 (nI (frI T n i))) 8 i (nI (frI T n i))) tb
    cases hL : chL (T (frI T n i)) with
    | true =>
      rw [hL] at pl
      have ex : tpo T n (i + 1) = rnE chL T n (frI T n i) := by
        rw [tpo_s]
        unfold tkX
        rw [if_neg (by omega), if_pos hL]
      have lp := x_wloop l3 t3 hn fb z7 z8 (nI i)
      obtain ⟨a1, a2, a3, a4⟩ := rn_in (p := chL) (T := T) (n := n) (e := frI T n i) fb
      have lp' : f_X4_scanWord_l5 4 (nI i) (0 : Int64) (0 : Int32) (hI (hI h 4 8 (nI (frI T n i))) 8 i (nI (frI T n i))) = some (lN (c5 (wdL T (frI T n i) (min (rnE chL T n (frI T n i) - frI T n i) 8))), nI (rnE chL T n (frI T n i) - frI T n i), hI (hI (hI h 4 8 (nI (frI T n i))) 8 i (nI (frI T n i))) 4 8 (nI (rnE chL T n (frI T n i)))) := lp
      refine ⟨hJ (hI (hI (hI h 4 8 (nI (frI T n i))) 8 i (nI (frI T n i))) 4 8 (nI (rnE chL T n (frI T n i)))) 10 i (lN (c5 (wdL T (frI T n i) (min (rnE chL T n (frI T n i) - frI T n i) 8)))), hd _ ?_, (f3.tr (FR.hI (by decide) (by decide) (by decide))).tr (FR.hJ (by decide)), by rw [ex]; rfl, fun k hk => k4 _ k hk, ?_, fun k hk => ⟨?_, ?_, ?_⟩, fun e => ?_, fun e => ?_⟩
      · have go : ∀ z, f_X4_scanWord_j68 (hI (hI (hI h 4 8 (nI (frI T n i))) 8 i (nI (frI T n i))) 4 8 (nI (rnE chL T n (frI T n i)))) 4 (nI i) (lN (c5 (wdL T (frI T n i) (min (rnE chL T n (frI T n i) - frI T n i) 8)))) (nI (rnE chL T n (frI T n i) - frI T n i)) = some z → f_X4_scan_j39 (hI h 4 8 (nI (frI T n i))) 4 (nI i) = some z := fun z hz => by
          obtain ⟨z1, z2⟩ := z
          simp (disch := first | assumption | omega | decide | ((repeat first | apply lyI | apply lyJ | apply lywI | apply lywJ | apply csI | apply csJ | apply cswI | apply cswJ); assumption)) only [f_X4_scan_j39, f_X4_scanWord, SX, rI_eq, rI_ne, rI_nk, rJ_eq, rJ_ne, rJ_nk, rI_J, rJ_I, ↓li_m1, nI_add, pk_mul, nn_sub, nn_m1, nn_div, nn_rem, nn_nz, nn_mod, nJ_l, lN_add, lN_mul, nn_tb1, nI_bt, nn_and, nn_or, nn_xor, nn_shr, nn_1shl, nn_31, il_p, il_n, it_p, it_n, ie_p, ie_n, ie_b, ie_b1, ie_m, ie_mm, it_m, it_m0, il_m0, bI_rZ, Option.bind_some, bd2_some, Nat.add_zero, Nat.zero_add, if_true, if_false, Bool.false_eq_true, eq_self, hI_R, hJ_R, ng_t, ng_e, e7, b, pl, bI_t, lp', bd3_some, hz]
          try simp (disch := first | assumption | omega | decide | ((repeat first | apply lyI | apply lyJ | apply lywI | apply lywJ | apply csI | apply csJ | apply cswI | apply cswJ); assumption)) only [f_X4_scan_j39, f_X4_scanWord, SX, rI_eq, rI_ne, rI_nk, rJ_eq, rJ_ne, rJ_nk, rI_J, rJ_I, LI, ↓li_m1, nI_add, pk_mul, nn_sub, nn_m1, nn_div, nn_rem, nn_nz, nn_mod, nJ_l, lN_add, lN_mul, nn_tb1, nI_bt, nn_and, nn_or, nn_xor, nn_shr, nn_1shl, nn_31, il_p, il_n, it_p, it_n, ie_p, ie_n, ie_b, ie_b1, ie_m, ie_mm, it_m, it_m0, il_m0, bI_rZ, Option.bind_some, bd2_some, Nat.add_zero, Nat.zero_add, if_true, if_false, Bool.false_eq_true, eq_self, hI_R, hJ_R, ng_t, ng_e, e7, b, pl, bI_t, lp', bd3_some, hz]
        refine go _ ?_
        unfold tcI tcF
        rw [if_neg (by omega), if_pos hL]
        rcases Nat.lt_or_ge 8 (rnE chL T n (frI T n i) - frI T n i) with v | v
        · rw [if_pos v]
          simp (disch := first | assumption | omega | decide | ((repeat first | apply lyI | apply lyJ | apply lywI | apply lywJ | apply csI | apply csJ | apply cswI | apply cswJ); assumption)) only [f_X4_scanWord_j68, SX, LI, ↓li_m1, nI_add, pk_mul, nn_sub, nn_m1, nn_div, nn_rem, nn_nz, nn_mod, nJ_l, lN_add, lN_mul, nn_tb1, nI_bt, nn_and, nn_or, nn_xor, nn_shr, nn_1shl, nn_31, il_p, il_n, it_p, it_n, ie_p, ie_n, ie_b, ie_b1, ie_m, ie_mm, it_m, it_m0, il_m0, bI_rZ, Option.bind_some, bd2_some, Nat.add_zero, Nat.zero_add, if_true, if_false, Bool.false_eq_true, eq_self, hI_R, hJ_R, ng_t, ng_e]
        · rw [if_neg (by omega), show min (rnE chL T n (frI T n i) - frI T n i) 8 = rnE chL T n (frI T n i) - frI T n i by omega]
          have sm : smW (wdL T (frI T n i) (rnE chL T n (frI T n i) - frI T n i)) := wd_sm (fun j hj => a3 _ (by omega) (by omega))
          have kk := x_kw (h := hJ (hI (hI (hI h 4 8 (nI (frI T n i))) 8 i (nI (frI T n i))) 4 8 (nI (rnE chL T n (frI T n i)))) 10 i (lN (c5 (wdL T (frI T n i) (rnE chL T n (frI T n i) - frI T n i))))) hl hw (by rw [wd_len]; exact v) sm
          cases hk : kwI (wdL T (frI T n i) (rnE chL T n (frI T n i) - frI T n i)) with
          | some q =>
            rw [hk] at kk
            have q27 := (firstB_s.mp hk).1
            simp (disch := first | assumption | omega | decide | ((repeat first | apply lyI | apply lyJ | apply lywI | apply lywJ | apply csI | apply csJ | apply cswI | apply cswJ); assumption)) only [f_X4_scanWord_j68, SX, LI, ↓li_m1, nI_add, pk_mul, nn_sub, nn_m1, nn_div, nn_rem, nn_nz, nn_mod, nJ_l, lN_add, lN_mul, nn_tb1, nI_bt, nn_and, nn_or, nn_xor, nn_shr, nn_1shl, nn_31, il_p, il_n, it_p, it_n, ie_p, ie_n, ie_b, ie_b1, ie_m, ie_mm, it_m, it_m0, il_m0, bI_rZ, Option.bind_some, bd2_some, Nat.add_zero, Nat.zero_add, if_true, if_false, Bool.false_eq_true, eq_self, hI_R, hJ_R, ng_t, ng_e, kk]
          | none =>
            rw [hk] at kk
            simp (disch := first | assumption | omega | decide | ((repeat first | apply lyI | apply lyJ | apply lywI | apply lywJ | apply csI | apply csJ | apply cswI | apply cswJ); assumption)) only [f_X4_scanWord_j68, SX, LI, ↓li_m1, nI_add, pk_mul, nn_sub, nn_m1, nn_div, nn_rem, nn_nz, nn_mod, nJ_l, lN_add, lN_mul, nn_tb1, nI_bt, nn_and, nn_or, nn_xor, nn_shr, nn_1shl, nn_31, il_p, il_n, it_p, it_n, ie_p, ie_n, ie_b, ie_b1, ie_m, ie_mm, it_m, it_m0, il_m0, bI_rZ, Option.bind_some, bd2_some, Nat.add_zero, Nat.zero_add, if_true, if_false, Bool.false_eq_true, eq_self, hI_R, hJ_R, ng_t, ng_e, kk]
      · show (hI (hI (hI h 4 8 (nI (frI T n i))) 8 i (nI (frI T n i))) 4 8 (nI (rnE chL T n (frI T n i)))).2.1 8 i = _
        rw [rI_ne (by decide), rI_eq]
      · show (hI (hI (hI h 4 8 (nI (frI T n i))) 8 i (nI (frI T n i))) 4 8 (nI (rnE chL T n (frI T n i)))).2.1 8 k = _
        rw [rI_ne (by decide), rI_nk hk, rI_ne (by decide)]
      · rfl
      · rw [rJ_hJ, if_neg (fun e => hk e.2)]
        rfl
      · exfalso
        unfold tcI tcF at e
        rw [if_neg (by omega), if_pos hL] at e
        split at e
        · cases e
        · split at e
          · omega
          · cases e
      · have l8 : rnE chL T n (frI T n i) - frI T n i ≤ 8 := by
          unfold tcI tcF at e
          rw [if_neg (by omega), if_pos hL] at e
          split at e
          · cases e
          · omega
        rw [rJ_eq, show min (rnE chL T n (frI T n i) - frI T n i) 8 = rnE chL T n (frI T n i) - frI T n i by omega]
        rfl
    | false =>
      rw [hL] at pl
      cases hD : chD (T (frI T n i)) with
      | true =>
        rw [hD] at pd
        have ex : tpo T n (i + 1) = rnE chD T n (frI T n i) := by
          rw [tpo_s]
          unfold tkX
          rw [if_neg (by omega), if_neg (by rw [hL]; decide), if_pos hD]
        have lp := x_nloop l3 t3 hn fb z7 z8 (nI i)
        obtain ⟨a1, a2, a3, a4⟩ := rn_in (p := chD) (T := T) (n := n) (e := frI T n i) fb
        have lp' : f_X4_scanNumber_l4 4 (nI i) (0 : Int32) (0 : Int32) (hI (hI h 4 8 (nI (frI T n i))) 8 i (nI (frI T n i))) = some (nI (nuL (wdL T (frI T n i) (min (rnE chD T n (frI T n i) - frI T n i) 4))), nI (rnE chD T n (frI T n i) - frI T n i), hI (hI (hI h 4 8 (nI (frI T n i))) 8 i (nI (frI T n i))) 4 8 (nI (rnE chD T n (frI T n i)))) := lp
        have etc : tcI T n i = if 4 < rnE chD T n (frI T n i) - frI T n i then 1 else 2 := by
          unfold tcI tcF
          rw [if_neg (by omega), if_neg (by rw [hL]; decide), if_pos hD]
        refine ⟨hI (hI (hI (hI h 4 8 (nI (frI T n i))) 8 i (nI (frI T n i))) 4 8 (nI (rnE chD T n (frI T n i)))) 9 i (nI (nuL (wdL T (frI T n i) (min (rnE chD T n (frI T n i) - frI T n i) 4)))), hd _ ?_, (f3.tr (FR.hI (by decide) (by decide) (by decide))).tr (FR.hI (by decide) (by decide) (by decide)), by rw [ex]; rfl, fun k hk => by rw [rI_ne (by decide)]; exact k4 _ k hk, ?_, fun k hk => ⟨?_, ?_, rfl⟩, fun e => ?_, fun e => ?_⟩
        · have go : ∀ z, f_X4_scanNumber_j69 (hI (hI (hI h 4 8 (nI (frI T n i))) 8 i (nI (frI T n i))) 4 8 (nI (rnE chD T n (frI T n i)))) 4 (nI i) (nI (nuL (wdL T (frI T n i) (min (rnE chD T n (frI T n i) - frI T n i) 4)))) (nI (rnE chD T n (frI T n i) - frI T n i)) = some z → f_X4_scan_j39 (hI h 4 8 (nI (frI T n i))) 4 (nI i) = some z := fun z hz => by
            obtain ⟨z1, z2⟩ := z
            simp (disch := first | assumption | omega | decide | ((repeat first | apply lyI | apply lyJ | apply lywI | apply lywJ | apply csI | apply csJ | apply cswI | apply cswJ); assumption)) only [f_X4_scan_j39, f_X4_scanNumber, SX, rI_eq, rI_ne, rI_nk, rJ_eq, rJ_ne, rJ_nk, rI_J, rJ_I, LI, ↓li_m1, nI_add, pk_mul, nn_sub, nn_m1, nn_div, nn_rem, nn_nz, nn_mod, nJ_l, lN_add, lN_mul, nn_tb1, nI_bt, nn_and, nn_or, nn_xor, nn_shr, nn_1shl, nn_31, il_p, il_n, it_p, it_n, ie_p, ie_n, ie_b, ie_b1, ie_m, ie_mm, it_m, it_m0, il_m0, bI_rZ, Option.bind_some, bd2_some, Nat.add_zero, Nat.zero_add, if_true, if_false, Bool.false_eq_true, eq_self, hI_R, hJ_R, ng_t, ng_e, e7, b, pl, pd, bI_t, bI_f, lp, bd3_some, hz]
          refine go _ ?_
          rw [etc]
          rcases Nat.lt_or_ge 4 (rnE chD T n (frI T n i) - frI T n i) with v | v
          · rw [if_pos v]
            simp (disch := first | assumption | omega | decide | ((repeat first | apply lyI | apply lyJ | apply lywI | apply lywJ | apply csI | apply csJ | apply cswI | apply cswJ); assumption)) only [f_X4_scanNumber_j69, SX, LI, ↓li_m1, nI_add, pk_mul, nn_sub, nn_m1, nn_div, nn_rem, nn_nz, nn_mod, nJ_l, lN_add, lN_mul, nn_tb1, nI_bt, nn_and, nn_or, nn_xor, nn_shr, nn_1shl, nn_31, il_p, il_n, it_p, it_n, ie_p, ie_n, ie_b, ie_b1, ie_m, ie_mm, it_m, it_m0, il_m0, bI_rZ, Option.bind_some, bd2_some, Nat.add_zero, Nat.zero_add, if_true, if_false, Bool.false_eq_true, eq_self, hI_R, hJ_R, ng_t, ng_e]
          · rw [if_neg (by omega)]
            simp (disch := first | assumption | omega | decide | ((repeat first | apply lyI | apply lyJ | apply lywI | apply lywJ | apply csI | apply csJ | apply cswI | apply cswJ); assumption)) only [f_X4_scanNumber_j69, SX, LI, ↓li_m1, nI_add, pk_mul, nn_sub, nn_m1, nn_div, nn_rem, nn_nz, nn_mod, nJ_l, lN_add, lN_mul, nn_tb1, nI_bt, nn_and, nn_or, nn_xor, nn_shr, nn_1shl, nn_31, il_p, il_n, it_p, it_n, ie_p, ie_n, ie_b, ie_b1, ie_m, ie_mm, it_m, it_m0, il_m0, bI_rZ, Option.bind_some, bd2_some, Nat.add_zero, Nat.zero_add, if_true, if_false, Bool.false_eq_true, eq_self, hI_R, hJ_R, ng_t, ng_e]
        · rw [rI_ne (by decide), rI_ne (by decide), rI_eq]
        · rw [rI_ne (by decide), rI_ne (by decide), rI_nk hk, rI_ne (by decide)]
        · rw [rI_nk hk]
          rfl
        · rw [etc] at e
          have l4 : ¬ 4 < rnE chD T n (frI T n i) - frI T n i := fun v => by
            rw [if_pos v] at e
            cases e
          rw [rI_eq, show min (rnE chD T n (frI T n i) - frI T n i) 4 = rnE chD T n (frI T n i) - frI T n i by omega]
          rfl
        · rw [etc] at e
          split at e <;> cases e
      | false =>
        rw [hD] at pd
        have ex : tpo T n (i + 1) = frI T n i + 1 := by
          rw [tpo_s]
          unfold tkX
          rw [if_neg (by omega), if_neg (by rw [hL]; decide), if_neg (by rw [hD]; decide)]
        have etc : tcI T n i = sgcN (T (frI T n i)) := by
          unfold tcI tcF
          rw [if_neg (by omega), if_neg (by rw [hL]; decide), if_neg (by rw [hD]; decide)]
          rfl
        have sg := x_sign (h := hI (hI (hI h 4 8 (nI (frI T n i))) 8 i (nI (frI T n i))) 4 8 (nI (frI T n i + 1))) tb
        refine ⟨hI (hI (hI h 4 8 (nI (frI T n i))) 8 i (nI (frI T n i))) 4 8 (nI (frI T n i + 1)), hd _ ?_, f3.tr (FR.hI (by decide) (by decide) (by decide)), by rw [ex]; rfl, fun k hk => k4 _ k hk, ?_, fun k hk => ⟨?_, rfl, rfl⟩, fun e => ?_, fun e => ?_⟩
        · rw [etc]
          simp (disch := first | assumption | omega | decide | ((repeat first | apply lyI | apply lyJ | apply lywI | apply lywJ | apply csI | apply csJ | apply cswI | apply cswJ); assumption)) only [f_X4_scan_j39, SX, rI_eq, rI_ne, rI_nk, rJ_eq, rJ_ne, rJ_nk, rI_J, rJ_I, LI, ↓li_m1, nI_add, pk_mul, nn_sub, nn_m1, nn_div, nn_rem, nn_nz, nn_mod, nJ_l, lN_add, lN_mul, nn_tb1, nI_bt, nn_and, nn_or, nn_xor, nn_shr, nn_1shl, nn_31, il_p, il_n, it_p, it_n, ie_p, ie_n, ie_b, ie_b1, ie_m, ie_mm, it_m, it_m0, il_m0, bI_rZ, Option.bind_some, bd2_some, Nat.add_zero, Nat.zero_add, if_true, if_false, Bool.false_eq_true, eq_self, hI_R, hJ_R, ng_t, ng_e, e7, b, pl, pd, bI_f, Nat.add_sub_cancel, sg]
        · rw [rI_ne (by decide), rI_eq]
        · rw [rI_ne (by decide), rI_nk hk, rI_ne (by decide)]
        · rw [etc] at e
          unfold sgcN at e
          repeat' split at e
          all_goals cases e
        · rw [etc] at e
          unfold sgcN at e
          repeat' split at e
          all_goals cases e
  · have ef : frI T n i = n := by omega
    have etc : tcI T n i = 0 := tc_0.mpr u
    have ex : tpo T n (i + 1) = frI T n i := by
      rw [tpo_s]
      unfold tkX
      rw [if_pos u, ef]
    refine ⟨hI (hI h 4 8 (nI (frI T n i))) 8 i (nI (frI T n i)), hd _ ?_, f3, by rw [ex]; rfl, fun k hk => by rw [rI_ne (by decide), rI_nk hk], rI_eq, fun k hk => ⟨by rw [rI_nk hk, rI_ne (by decide)], rfl, rfl⟩, fun e => ?_, fun e => ?_⟩
    · rw [etc]
      simp (disch := first | assumption | omega | decide | ((repeat first | apply lyI | apply lyJ | apply lywI | apply lywJ | apply csI | apply csJ | apply cswI | apply cswJ); assumption)) only [f_X4_scan_j39, SX, rI_eq, rI_ne, rI_nk, rJ_eq, rJ_ne, rJ_nk, rI_J, rJ_I, LI, ↓li_m1, nI_add, pk_mul, nn_sub, nn_m1, nn_div, nn_rem, nn_nz, nn_mod, nJ_l, lN_add, lN_mul, nn_tb1, nI_bt, nn_and, nn_or, nn_xor, nn_shr, nn_1shl, nn_31, il_p, il_n, it_p, it_n, ie_p, ie_n, ie_b, ie_b1, ie_m, ie_mm, it_m, it_m0, il_m0, bI_rZ, Option.bind_some, bd2_some, Nat.add_zero, Nat.zero_add, if_true, if_false, Bool.false_eq_true, eq_self, hI_R, hJ_R, ng_t, ng_e, e7]
    · rw [etc] at e
      cases e
    · rw [etc] at e
      cases e
