/-! ===== the reference's tokens ===== -/
/-- the text is T -/
def RXT (k : aH) (T : Nat → Nat) (n : Nat) : Prop := n ≤ 900 ∧ k.2.1 113 12 = nI n ∧ (∀ j, T j < 256) ∧ ∀ j, j < n → k.2.1 121 j = bS (T j)
def clN (t : Nat) : Nat := if t = 0 then 0 else if t = 1 then 1 else if t = 2 then 3 else if t ≤ 5 then 4 else 2
/-- the i-th token is looked at -/
def RX (k : aH) (T : Nat → Nat) (n i : Nat) : Prop := RXT k T n ∧ k.2.1 113 14 = nI (frI T n i) ∧ k.2.1 113 15 = nI (tpo T n (i + 1)) ∧ k.2.1 113 13 = nI (clN (tcI T n i)) ∧ (tcI T n i = 2 → k.2.1 113 16 = nI (nuI T n i)) ∧ (3 ≤ tcI T n i → tcI T n i ≤ 5 → k.2.1 113 16 = nI (T (frI T n i)))
def btI (T : Nat → Nat) (n j : Nat) : Int32 := if j < n then nI (T j) else m1
theorem r_byte {k : aH} (kl : LAY k) {T : Nat → Nat} {n j : Nat} (rx : RXT k T n) (hj : j < 100000) : f_X12_byteAt k 113 (nI j) = some (btI T n j) := by
  obtain ⟨n9, e12, tb, tx⟩ := rx
  rcases Nat.lt_or_ge j n with u | u
  · have e := tx j u
    have e2 := bS_255 _ (tb j)
    have e3 : btI T n j = nI (T j) := if_pos u
    rw [e3]
    simp (disch := first | assumption | omega | decide | ((repeat first | apply lyI | apply lyJ | apply lywI | apply lywJ | apply csI | apply csJ | apply cswI | apply cswJ); assumption)) only [f_X12_byteAt, SM, LI, ↓li_m1, nI_add, pk_mul, nn_sub, nn_m1, nn_div, nn_rem, nn_nz, nn_mod, nJ_l, lN_add, lN_mul, nn_tb1, nI_bt, nn_and, nn_or, nn_xor, nn_shr, nn_1shl, nn_31, il_p, il_n, it_p, it_n, ie_p, ie_n, ie_b, ie_b1, ie_m, ie_mm, it_m, it_m0, il_m0, bI_rZ, Option.bind_some, bd2_some, Nat.add_zero, Nat.zero_add, if_true, if_false, Bool.false_eq_true, eq_self, hI_R, hJ_R, ng_t, ng_e, e12, e, e2]
  · have e3 : btI T n j = m1 := if_neg (by omega)
    rw [e3]
    simp (disch := first | assumption | omega | decide | ((repeat first | apply lyI | apply lyJ | apply lywI | apply lywJ | apply csI | apply csJ | apply cswI | apply cswJ); assumption)) only [f_X12_byteAt, SM, LI, ↓li_m1, nI_add, pk_mul, nn_sub, nn_m1, nn_div, nn_rem, nn_nz, nn_mod, nJ_l, lN_add, lN_mul, nn_tb1, nI_bt, nn_and, nn_or, nn_xor, nn_shr, nn_1shl, nn_31, il_p, il_n, it_p, it_n, ie_p, ie_n, ie_b, ie_b1, ie_m, ie_mm, it_m, it_m0, il_m0, bI_rZ, Option.bind_some, bd2_some, Nat.add_zero, Nat.zero_add, if_true, if_false, Bool.false_eq_true, eq_self, hI_R, hJ_R, ng_t, ng_e, e12]
theorem chB_n {t : Nat} (h : chB t = false) : t ≠ 10 ∧ t ≠ 32 := by
  unfold chB at h
  simpa using h
theorem chB_y {t : Nat} (h : chB t = true) : t = 10 ∨ t = 32 := by
  unfold chB at h
  simpa using h
theorem nS_L : ∀ t, t < 256 → (if nI t < (97 : Int32) then some (0 : Int32) else if (122 : Int32) < nI t then some (0 : Int32) else some (1 : Int32)) = some (bI (chL t)) := by decide +kernel
theorem nS_D : ∀ t, t < 256 → (if nI t < (48 : Int32) then some (0 : Int32) else if (57 : Int32) < nI t then some (0 : Int32) else some (1 : Int32)) = some (bI (chD t)) := by decide +kernel
theorem r_isS {h : aH} {T : Nat → Nat} {n j : Nat} (tb : ∀ j, T j < 256) : f_X12_isSmall h (btI T n j) = some (bI (decide (j < n) && chL (T j))) := by
  unfold btI
  rcases Nat.lt_or_ge j n with u | u
  · rw [if_pos u, decide_eq_true u, Bool.true_and]
    exact nS_L _ (tb j)
  · rw [if_neg (by omega), decide_eq_false (by omega), Bool.false_and]
    rfl
theorem r_isDg {h : aH} {T : Nat → Nat} {n j : Nat} (tb : ∀ j, T j < 256) : f_X12_isDigit h (btI T n j) = some (bI (decide (j < n) && chD (T j))) := by
  unfold btI
  rcases Nat.lt_or_ge j n with u | u
  · rw [if_pos u, decide_eq_true u, Bool.true_and]
    exact nS_D _ (tb j)
  · rw [if_neg (by omega), decide_eq_false (by omega), Bool.false_and]
    rfl
theorem rxt_15 {k : aH} {T : Nat → Nat} {n : Nat} {x : Int32} (rx : RXT k T n) : RXT (hI k 113 15 x) T n := ⟨rx.1, (rI_nk (by decide)).trans rx.2.1, rx.2.2.1, rx.2.2.2⟩
theorem r_skip {k : aH} (kl : LAY k) {T : Nat → Nat} {n e : Nat} (rx : RXT k T n) (he : e ≤ n) (e15 : k.2.1 113 15 = nI e) : f_X12_ahead_l0 113 k = some (hI k 113 15 (nI (rnE chB T n e))) := by
  have n9 := rx.1
  obtain ⟨a1, a2, a3, a4⟩ := rn_in (p := chB) (T := T) (n := n) (e := e) he
  refine for0 (body := fun q : aH => f_X12_ahead_b0 113 q) (fun j => hI k 113 15 (nI (e + j))) (rnE chB T n e - e) (e := hI k 113 15 (nI (rnE chB T n e))) (by rw [Nat.add_zero, hI_id e15]) (by omega) (fun j hj => ?_) ?_
  · have l1 : LAY (hI k 113 15 (nI (e + j))) := kl
    have b := r_byte (j := e + j) l1 (rxt_15 (x := nI (e + j)) rx) (by omega)
    have eb : btI T n (e + j) = nI (T (e + j)) := if_pos (by omega)
    rw [eb] at b
    have p := a3 (e + j) (by omega) (by omega)
    have tb := rx.2.2.1 (e + j)
    show f_X12_ahead_b0 113 (hI k 113 15 (nI (e + j))) = _
    by_cases h32 : T (e + j) = 32
    · rw [h32] at b
      simp (disch := first | assumption | omega | decide | ((repeat first | apply lyI | apply lyJ | apply lywI | apply lywJ | apply csI | apply csJ | apply cswI | apply cswJ); assumption)) only [f_X12_ahead_b0, f_X12_ahead_j26, SM, rI_eq, rI_ne, rI_nk, rJ_eq, rJ_ne, rJ_nk, rI_J, rJ_I, LI, ↓li_m1, nI_add, pk_mul, nn_sub, nn_m1, nn_div, nn_rem, nn_nz, nn_mod, nJ_l, lN_add, lN_mul, nn_tb1, nI_bt, nn_and, nn_or, nn_xor, nn_shr, nn_1shl, nn_31, il_p, il_n, it_p, it_n, ie_p, ie_n, ie_b, ie_b1, ie_m, ie_mm, it_m, it_m0, il_m0, bI_rZ, Option.bind_some, bd2_some, Nat.add_zero, Nat.zero_add, if_true, if_false, Bool.false_eq_true, eq_self, hI_R, hJ_R, ng_t, ng_e, b, hI_hI]
      rfl
    · have h10 : T (e + j) = 10 := (chB_y p).resolve_right h32
      rw [h10] at b
      simp (disch := first | assumption | omega | decide | ((repeat first | apply lyI | apply lyJ | apply lywI | apply lywJ | apply csI | apply csJ | apply cswI | apply cswJ); assumption)) only [f_X12_ahead_b0, f_X12_ahead_j26, SM, rI_eq, rI_ne, rI_nk, rJ_eq, rJ_ne, rJ_nk, rI_J, rJ_I, LI, ↓li_m1, nI_add, pk_mul, nn_sub, nn_m1, nn_div, nn_rem, nn_nz, nn_mod, nJ_l, lN_add, lN_mul, nn_tb1, nI_bt, nn_and, nn_or, nn_xor, nn_shr, nn_1shl, nn_31, il_p, il_n, it_p, it_n, ie_p, ie_n, ie_b, ie_b1, ie_m, ie_mm, it_m, it_m0, il_m0, bI_rZ, Option.bind_some, bd2_some, Nat.add_zero, Nat.zero_add, if_true, if_false, Bool.false_eq_true, eq_self, hI_R, hJ_R, ng_t, ng_e, b, hI_hI]
      rfl
  · have l1 : LAY (hI k 113 15 (nI (rnE chB T n e))) := kl
    have b := r_byte (j := rnE chB T n e) l1 (rxt_15 (x := nI (rnE chB T n e)) rx) (by omega)
    show f_X12_ahead_b0 113 (hI k 113 15 (nI (e + (rnE chB T n e - e)))) = _
    rw [show e + (rnE chB T n e - e) = rnE chB T n e by omega]
    rcases Nat.lt_or_ge (rnE chB T n e) n with u | u
    · have eb : btI T n (rnE chB T n e) = nI (T (rnE chB T n e)) := if_pos u
      rw [eb] at b
      have p := a4 u
      have tb := rx.2.2.1 (rnE chB T n e)
      obtain ⟨p3, p4⟩ := chB_n p
      simp (disch := first | assumption | omega | decide | ((repeat first | apply lyI | apply lyJ | apply lywI | apply lywJ | apply csI | apply csJ | apply cswI | apply cswJ); assumption)) only [f_X12_ahead_b0, SM, rI_eq, rI_ne, rI_nk, rJ_eq, rJ_ne, rJ_nk, rI_J, rJ_I, LI, ↓li_m1, nI_add, pk_mul, nn_sub, nn_m1, nn_div, nn_rem, nn_nz, nn_mod, nJ_l, lN_add, lN_mul, nn_tb1, nI_bt, nn_and, nn_or, nn_xor, nn_shr, nn_1shl, nn_31, il_p, il_n, it_p, it_n, ie_p, ie_n, ie_b, ie_b1, ie_m, ie_mm, it_m, it_m0, il_m0, bI_rZ, Option.bind_some, bd2_some, Nat.add_zero, Nat.zero_add, if_true, if_false, Bool.false_eq_true, eq_self, hI_R, hJ_R, ng_t, ng_e, b]
    · have eb : btI T n (rnE chB T n e) = m1 := if_neg (by omega)
      rw [eb] at b
      have q1 : ¬ m1 = nI 32 := by decide
      have q2 : ¬ m1 = nI 10 := by decide
      simp (disch := first | assumption | omega | decide | ((repeat first | apply lyI | apply lyJ | apply lywI | apply lywJ | apply csI | apply csJ | apply cswI | apply cswJ); assumption)) only [f_X12_ahead_b0, SM, rI_eq, rI_ne, rI_nk, rJ_eq, rJ_ne, rJ_nk, rI_J, rJ_I, LI, ↓li_m1, nI_add, pk_mul, nn_sub, nn_m1, nn_div, nn_rem, nn_nz, nn_mod, nJ_l, lN_add, lN_mul, nn_tb1, nI_bt, nn_and, nn_or, nn_xor, nn_shr, nn_1shl, nn_31, il_p, il_n, it_p, it_n, ie_p, ie_n, ie_b, ie_b1, ie_m, ie_mm, it_m, it_m0, il_m0, bI_rZ, Option.bind_some, bd2_some, Nat.add_zero, Nat.zero_add, if_true, if_false, Bool.false_eq_true, eq_self, hI_R, hJ_R, ng_t, ng_e, b, if_neg q1, if_neg q2]
theorem r_word {k : aH} (kl : LAY k) {T : Nat → Nat} {n e : Nat} (rx : RXT k T n) (he : e ≤ n) (e15 : k.2.1 113 15 = nI e) : f_X12_ahead_l81 113 k = some (hI k 113 15 (nI (rnE chL T n e))) := by
  have n9 := rx.1
  obtain ⟨a1, a2, a3, a4⟩ := rn_in (p := chL) (T := T) (n := n) (e := e) he
  refine for0 (body := fun q : aH => f_X12_ahead_b81 113 q) (fun j => hI k 113 15 (nI (e + j))) (rnE chL T n e - e) (e := hI k 113 15 (nI (rnE chL T n e))) (by rw [Nat.add_zero, hI_id e15]) (by omega) (fun j hj => ?_) ?_
  · have l1 : LAY (hI k 113 15 (nI (e + j))) := kl
    have b := r_byte (j := e + j) l1 (rxt_15 (x := nI (e + j)) rx) (by omega)
    have p := r_isS (h := hI k 113 15 (nI (e + j))) (n := n) (j := e + j) rx.2.2.1
    rw [a3 (e + j) (by omega) (by omega), decide_eq_true (show e + j < n by omega)] at p
    show f_X12_ahead_b81 113 (hI k 113 15 (nI (e + j))) = _
    simp (disch := first | assumption | omega | decide | ((repeat first | apply lyI | apply lyJ | apply lywI | apply lywJ | apply csI | apply csJ | apply cswI | apply cswJ); assumption)) only [f_X12_ahead_b81, SM, rI_eq, rI_ne, rI_nk, rJ_eq, rJ_ne, rJ_nk, rI_J, rJ_I, LI, ↓li_m1, nI_add, pk_mul, nn_sub, nn_m1, nn_div, nn_rem, nn_nz, nn_mod, nJ_l, lN_add, lN_mul, nn_tb1, nI_bt, nn_and, nn_or, nn_xor, nn_shr, nn_1shl, nn_31, il_p, il_n, it_p, it_n, ie_p, ie_n, ie_b, ie_b1, ie_m, ie_mm, it_m, it_m0, il_m0, bI_rZ, Option.bind_some, bd2_some, Nat.add_zero, Nat.zero_add, if_true, if_false, Bool.false_eq_true, eq_self, hI_R, hJ_R, ng_t, ng_e, b, p, Bool.and_self, bI_t, hI_hI]
    rfl
  · have l1 : LAY (hI k 113 15 (nI (rnE chL T n e))) := kl
    have b := r_byte (j := rnE chL T n e) l1 (rxt_15 (x := nI (rnE chL T n e)) rx) (by omega)
    have p := r_isS (h := hI k 113 15 (nI (rnE chL T n e))) (n := n) (j := rnE chL T n e) rx.2.2.1
    have z : (decide (rnE chL T n e < n) && chL (T (rnE chL T n e))) = false := by
      rcases Nat.lt_or_ge (rnE chL T n e) n with u | u
      · rw [a4 u, Bool.and_false]
      · rw [decide_eq_false (by omega), Bool.false_and]
    rw [z] at p
    show f_X12_ahead_b81 113 (hI k 113 15 (nI (e + (rnE chL T n e - e)))) = _
    rw [show e + (rnE chL T n e - e) = rnE chL T n e by omega]
    simp (disch := first | assumption | omega | decide | ((repeat first | apply lyI | apply lyJ | apply lywI | apply lywJ | apply csI | apply csJ | apply cswI | apply cswJ); assumption)) only [f_X12_ahead_b81, SM, rI_eq, rI_ne, rI_nk, rJ_eq, rJ_ne, rJ_nk, rI_J, rJ_I, LI, ↓li_m1, nI_add, pk_mul, nn_sub, nn_m1, nn_div, nn_rem, nn_nz, nn_mod, nJ_l, lN_add, lN_mul, nn_tb1, nI_bt, nn_and, nn_or, nn_xor, nn_shr, nn_1shl, nn_31, il_p, il_n, it_p, it_n, ie_p, ie_n, ie_b, ie_b1, ie_m, ie_mm, it_m, it_m0, il_m0, bI_rZ, Option.bind_some, bd2_some, Nat.add_zero, Nat.zero_add, if_true, if_false, Bool.false_eq_true, eq_self, hI_R, hJ_R, ng_t, ng_e, b, p, bI_f]
def nvN (T : Nat → Nat) (f : Nat) : Nat → Nat
  | 0 => 0
  | j + 1 => min 100000 (10 * nvN T f j + T (f + j) - 48)
theorem nv_le {T : Nat → Nat} {f : Nat} : ∀ j, nvN T f j ≤ 100000
  | 0 => Nat.zero_le _
  | j + 1 => Nat.min_le_left _ _
theorem nv_nu {T : Nat → Nat} {f : Nat} : ∀ j, j ≤ 4 → (∀ i, i < j → chD (T (f + i)) = true) → nvN T f j = nuL (wdL T f j)
  | 0, _, _ => rfl
  | j + 1, h4, hd => by
    have ih := nv_nu j (by omega) (fun i hi => hd i (by omega))
    have lt := nu_lt (T := T) (f := f) (l := j) (fun i hi => hd i (by omega))
    have p : 10 ^ j ≤ 10 ^ 3 := Nat.pow_le_pow_right (by decide) (by omega)
    have d := hd j (by omega)
    unfold chD at d
    have d2 : 48 ≤ T (f + j) ∧ T (f + j) ≤ 57 := by simpa using d
    show min 100000 (10 * nvN T f j + T (f + j) - 48) = _
    rw [wd_s, nu_s, ih]
    omega
theorem r_digits {k : aH} (kl : LAY k) {T : Nat → Nat} {n e : Nat} (rx : RXT k T n) (he : e ≤ n) (e15 : k.2.1 113 15 = nI e) (e16 : k.2.1 113 16 = nI 0) : f_X12_ahead_l128 113 k = some (hI (hI k 113 16 (nI (nvN T e (rnE chD T n e - e)))) 113 15 (nI (rnE chD T n e))) := by
  have n9 := rx.1
  obtain ⟨a1, a2, a3, a4⟩ := rn_in (p := chD) (T := T) (n := n) (e := e) he
  have st0 : k = hI (hI k 113 16 (nI (nvN T e 0))) 113 15 (nI (e + 0)) := by
    rw [show nvN T e 0 = 0 from rfl, hI_id e16, Nat.add_zero, hI_id e15]
  have rx2 : ∀ x y, RXT (hI (hI k 113 16 x) 113 15 y) T n := fun x y => ⟨rx.1, (rI_nk (by decide)).trans ((rI_nk (by decide)).trans rx.2.1), rx.2.2.1, rx.2.2.2⟩
  have sw : ∀ x y z w : Int32, hI (hI (hI (hI k 113 16 x) 113 15 y) 113 16 z) 113 15 w = hI (hI k 113 16 z) 113 15 w := fun x y z w => by
    simp only [hI_w, wI_wI, wI_s]
    refine congrArg (wI k 113) ?_
    funext j
    unfold va_up
    by_cases h5 : j = 15 <;> by_cases h6 : j = 16 <;> simp [h5, h6]
  refine for0 (body := fun q : aH => f_X12_ahead_b128 113 q) (fun j => hI (hI k 113 16 (nI (nvN T e j))) 113 15 (nI (e + j))) (rnE chD T n e - e) (e := hI (hI k 113 16 (nI (nvN T e (rnE chD T n e - e)))) 113 15 (nI (rnE chD T n e))) st0 (by omega) (fun j hj => ?_) ?_
  · have l1 : LAY (hI (hI k 113 16 (nI (nvN T e j))) 113 15 (nI (e + j))) := kl
    have b := r_byte (j := e + j) l1 (rx2 (nI (nvN T e j)) (nI (e + j))) (by omega)
    have td := a3 (e + j) (by omega) (by omega)
    have p := r_isDg (h := hI (hI k 113 16 (nI (nvN T e j))) 113 15 (nI (e + j))) (n := n) (j := e + j) rx.2.2.1
    rw [td, decide_eq_true (show e + j < n by omega)] at p
    have eb : btI T n (e + j) = nI (T (e + j)) := if_pos (by omega)
    rw [eb] at b p
    have d2 : 48 ≤ T (e + j) ∧ T (e + j) ≤ 57 := by
      unfold chD at td
      simpa using td
    have vl := nv_le (T := T) (f := e) j
    have mn : mnI (nI 100000) (nI (10 * nvN T e j + T (e + j) - 48)) = nI (nvN T e (j + 1)) := by
      show _ = nI (min 100000 (10 * nvN T e j + T (e + j) - 48))
      unfold mnI
      rcases Nat.lt_or_ge (10 * nvN T e j + T (e + j) - 48) 100000 with u | u
      · rw [if_pos (nI_lt u (by decide)), Nat.min_eq_right (by omega)]
      · rw [if_neg (nI_nlt u (by omega)), Nat.min_eq_left u]
    show f_X12_ahead_b128 113 (hI (hI k 113 16 (nI (nvN T e j))) 113 15 (nI (e + j))) = some (.inl (hI (hI k 113 16 (nI (nvN T e (j + 1)))) 113 15 (nI (e + (j + 1)))))
    simp (disch := first | assumption | omega | decide | ((repeat first | apply lyI | apply lyJ | apply lywI | apply lywJ | apply csI | apply csJ | apply cswI | apply cswJ); assumption)) only [f_X12_ahead_b128, SM, rI_eq, rI_ne, rI_nk, rJ_eq, rJ_ne, rJ_nk, rI_J, rJ_I, LI, ↓li_m1, nI_add, pk_mul, nn_sub, nn_m1, nn_div, nn_rem, nn_nz, nn_mod, nJ_l, lN_add, lN_mul, nn_tb1, nI_bt, nn_and, nn_or, nn_xor, nn_shr, nn_1shl, nn_31, il_p, il_n, it_p, it_n, ie_p, ie_n, ie_b, ie_b1, ie_m, ie_mm, it_m, it_m0, il_m0, bI_rZ, Option.bind_some, bd2_some, Nat.add_zero, Nat.zero_add, if_true, if_false, Bool.false_eq_true, eq_self, hI_R, hJ_R, ng_t, ng_e, b, p, Bool.and_self, bI_t, mn, sw]
    rfl
  · have l1 : LAY (hI (hI k 113 16 (nI (nvN T e (rnE chD T n e - e)))) 113 15 (nI (rnE chD T n e))) := kl
    have b := r_byte (j := rnE chD T n e) l1 (rx2 _ _) (by omega)
    have p := r_isDg (h := hI (hI k 113 16 (nI (nvN T e (rnE chD T n e - e)))) 113 15 (nI (rnE chD T n e))) (n := n) (j := rnE chD T n e) rx.2.2.1
    have z : (decide (rnE chD T n e < n) && chD (T (rnE chD T n e))) = false := by
      rcases Nat.lt_or_ge (rnE chD T n e) n with u | u
      · rw [a4 u, Bool.and_false]
      · rw [decide_eq_false (by omega), Bool.false_and]
    rw [z] at p
    show f_X12_ahead_b128 113 (hI (hI k 113 16 (nI (nvN T e (rnE chD T n e - e)))) 113 15 (nI (e + (rnE chD T n e - e)))) = _
    rw [show e + (rnE chD T n e - e) = rnE chD T n e by omega]
    simp (disch := first | assumption | omega | decide | ((repeat first | apply lyI | apply lyJ | apply lywI | apply lywJ | apply csI | apply csJ | apply cswI | apply cswJ); assumption)) only [f_X12_ahead_b128, SM, rI_eq, rI_ne, rI_nk, rJ_eq, rJ_ne, rJ_nk, rI_J, rJ_I, LI, ↓li_m1, nI_add, pk_mul, nn_sub, nn_m1, nn_div, nn_rem, nn_nz, nn_mod, nJ_l, lN_add, lN_mul, nn_tb1, nI_bt, nn_and, nn_or, nn_xor, nn_shr, nn_1shl, nn_31, il_p, il_n, it_p, it_n, ie_p, ie_n, ie_b, ie_b1, ie_m, ie_mm, it_m, it_m0, il_m0, bI_rZ, Option.bind_some, bd2_some, Nat.add_zero, Nat.zero_add, if_true, if_false, Bool.false_eq_true, eq_self, hI_R, hJ_R, ng_t, ng_e, b, p, bI_f]
theorem rxt_fr {k k' : aH} {T : Nat → Nat} {n : Nat} {cI cJ f0 f1 : List Nat} (hf : FR k k' cI cJ f0 f1) (h1 : 121 ∉ cI) (h2 : 12 ∉ f1) (rx : RXT k T n) : RXT k' T n := by
  unfold RXT
  rw [hf.2.2.2.2.2 12 h2, hf.I 121 h1 (by decide) (by decide)]
  exact rx
theorem rx_fr {k k' : aH} {T : Nat → Nat} {n i : Nat} {cI cJ f0 f1 : List Nat} (hf : FR k k' cI cJ f0 f1) (h1 : 121 ∉ cI) (h2 : ∀ x ∈ f1, x < 12 ∨ 16 < x) (rx : RX k T n i) : RX k' T n i := by
  have z : ∀ x, 12 ≤ x → x ≤ 16 → x ∉ f1 := fun x a b e => by have := h2 x e; omega
  unfold RX
  rw [hf.2.2.2.2.2 13 (z 13 (by decide) (by decide)), hf.2.2.2.2.2 14 (z 14 (by decide) (by decide)), hf.2.2.2.2.2 15 (z 15 (by decide) (by decide)), hf.2.2.2.2.2 16 (z 16 (by decide) (by decide))]
  exact ⟨rxt_fr hf h1 (z 12 (by decide) (by decide)) rx.1, rx.2⟩
theorem ah_m {a : Nat} (h : a < 256) : ¬ nI a = (-1 : Int32) := fun e => nI_pos (n := a) (by omega) (by rw [e]; decide)
/-- what all tokens begin with -/
theorem ah_pre {k : aH} (kl : LAY k) {T : Nat → Nat} {n i : Nat} (rx : RXT k T n) (e15 : k.2.1 113 15 = nI (tpo T n i)) : f_X12_ahead_l0 113 k = some (hI k 113 15 (nI (frI T n i))) ∧ gI (hI k 113 15 (nI (frI T n i))) 12 113 15 = some (nI (frI T n i)) ∧ pI (hI k 113 15 (nI (frI T n i))) 12 113 14 (nI (frI T n i)) = some (hI (hI k 113 15 (nI (frI T n i))) 113 14 (nI (frI T n i))) ∧ gI (hI (hI k 113 15 (nI (frI T n i))) 113 14 (nI (frI T n i))) 12 113 15 = some (nI (frI T n i)) ∧ ck (hI (hI k 113 15 (nI (frI T n i))) 113 14 (nI (frI T n i))) 12 113 = some () ∧ f_X12_byteAt (hI (hI k 113 15 (nI (frI T n i))) 113 14 (nI (frI T n i))) 113 (nI (frI T n i)) = some (btI T n (frI T n i)) ∧ ∀ x, pI (hI (hI k 113 15 (nI (frI T n i))) 113 14 (nI (frI T n i))) 12 113 16 x = some (hI (hI (hI k 113 15 (nI (frI T n i))) 113 14 (nI (frI T n i))) 113 16 x) := by
  have n9 := rx.1
  have fb := (fr_le (T := T) (n := n) (i := i)).2
  have r0 := r_skip kl rx (tpo_le i) e15
  have l1 : LAY (hI k 113 15 (nI (frI T n i))) := kl
  have l9 : LAY (hI (hI k 113 15 (nI (frI T n i))) 113 14 (nI (frI T n i))) := kl
  have rx9 : RXT (hI (hI k 113 15 (nI (frI T n i))) 113 14 (nI (frI T n i))) T n := rxt_fr (f1 := [13, 14, 15, 16]) (cI := []) (cJ := []) (f0 := []) ((fr_1 (by decide)).tr (fr_1 (by decide))) (by decide) (by decide) rx
  refine ⟨r0, ?_, pI_L l1 14 _ (by decide) (by decide), ?_, ck_L l9 (by decide) (by decide), r_byte (j := frI T n i) l9 rx9 (by omega), fun x => pI_L l9 16 x (by decide) (by decide)⟩
  · rw [gI_L l1 15 (by decide) (by decide), rI_eq]
  · rw [gI_L l9 15 (by decide) (by decide), rI_nk (by decide), rI_eq]
theorem r_ahE {k : aH} (kl : LAY k) {T : Nat → Nat} {n i : Nat} (rx : RXT k T n) (e15 : k.2.1 113 15 = nI (tpo T n i)) (u : n ≤ frI T n i) : ∃ k', f_X12_ahead k 113 = some k' ∧ FR k k' [] [] [] [13, 14, 15, 16] ∧ RX k' T n i := by
  obtain ⟨r0, a1, a2, a3, ck9, b', a4⟩ := ah_pre kl rx e15
  have fb := (fr_le (T := T) (n := n) (i := i)).2
  have eb : btI T n (frI T n i) = m1 := if_neg (by omega)
  rw [eb] at b'
  have etc : tcI T n i = 0 := tc_0.mpr u
  have ex : tpo T n (i + 1) = frI T n i := by
    rw [tpo_s]
    unfold tkX
    rw [if_pos u]
    omega
  have l12 : LAY (hI (hI (hI k 113 15 (nI (frI T n i))) 113 14 (nI (frI T n i))) 113 16 m1) := kl
  have p13 : pI (hI (hI (hI k 113 15 (nI (frI T n i))) 113 14 (nI (frI T n i))) 113 16 m1) 12 113 13 (0 : Int32) = some (hI (hI (hI (hI k 113 15 (nI (frI T n i))) 113 14 (nI (frI T n i))) 113 16 m1) 113 13 (nI 0)) := pI_L l12 13 _ (by decide) (by decide)
  have fz : FR k (hI (hI (hI (hI k 113 15 (nI (frI T n i))) 113 14 (nI (frI T n i))) 113 16 m1) 113 13 (nI 0)) [] [] [] [13, 14, 15, 16] := (((fr_1 (by decide)).tr (fr_1 (by decide))).tr (fr_1 (by decide))).tr (fr_1 (by decide))
  refine ⟨_, ?_, fz, rxt_fr fz (by decide) (by decide) rx, ?_, ?_, by rw [rI_eq, etc]; rfl, fun e => by omega, fun e _ => by omega⟩
  · unfold f_X12_ahead
    rw [r0, Option.bind_some, a1, Option.bind_some, a2, Option.bind_some, a3, Option.bind_some, ck9, Option.bind_some, b', Option.bind_some, a4, Option.bind_some, if_pos (show m1 = (-1 : Int32) from rfl), p13, Option.bind_some]
  · rw [rI_nk (by decide), rI_nk (by decide), rI_eq]
  · rw [rI_nk (by decide), rI_nk (by decide), rI_nk (by decide), rI_eq, ex]
theorem r_ahW {k : aH} (kl : LAY k) {T : Nat → Nat} {n i : Nat} (rx : RXT k T n) (e15 : k.2.1 113 15 = nI (tpo T n i)) (u : frI T n i < n) (hL : chL (T (frI T n i)) = true) : ∃ k', f_X12_ahead k 113 = some k' ∧ FR k k' [] [] [] [13, 14, 15, 16] ∧ RX k' T n i := by
  obtain ⟨r0, a1, a2, a3, ck9, b', a4⟩ := ah_pre kl rx e15
  have fb := (fr_le (T := T) (n := n) (i := i)).2
  have tb := rx.2.2.1 (frI T n i)
  have eb : btI T n (frI T n i) = nI (T (frI T n i)) := if_pos u
  have ps := r_isS (h := hI (hI (hI k 113 15 (nI (frI T n i))) 113 14 (nI (frI T n i))) 113 16 (nI (T (frI T n i)))) (n := n) (j := frI T n i) rx.2.2.1
  rw [decide_eq_true u, Bool.true_and, eb, hL] at ps
  rw [eb] at b'
  have ex : tpo T n (i + 1) = rnE chL T n (frI T n i) := by
    rw [tpo_s]
    unfold tkX
    rw [if_neg (by omega), if_pos hL]
  have f12 : FR k (hI (hI (hI k 113 15 (nI (frI T n i))) 113 14 (nI (frI T n i))) 113 16 (nI (T (frI T n i)))) [] [] [] [13, 14, 15, 16] := ((fr_1 (by decide)).tr (fr_1 (by decide))).tr (fr_1 (by decide))
  have l12 : LAY (hI (hI (hI k 113 15 (nI (frI T n i))) 113 14 (nI (frI T n i))) 113 16 (nI (T (frI T n i)))) := kl
  have lp := r_word (k := hI (hI (hI k 113 15 (nI (frI T n i))) 113 14 (nI (frI T n i))) 113 16 (nI (T (frI T n i)))) l12 (rxt_fr f12 (by decide) (by decide) rx) fb (by rw [rI_nk (by decide), rI_nk (by decide), rI_eq])
  have l13 : LAY (hI (hI (hI (hI k 113 15 (nI (frI T n i))) 113 14 (nI (frI T n i))) 113 16 (nI (T (frI T n i)))) 113 15 (nI (rnE chL T n (frI T n i)))) := kl
  have p13 : pI (hI (hI (hI (hI k 113 15 (nI (frI T n i))) 113 14 (nI (frI T n i))) 113 16 (nI (T (frI T n i)))) 113 15 (nI (rnE chL T n (frI T n i)))) 12 113 13 (2 : Int32) = some (hI (hI (hI (hI (hI k 113 15 (nI (frI T n i))) 113 14 (nI (frI T n i))) 113 16 (nI (T (frI T n i)))) 113 15 (nI (rnE chL T n (frI T n i)))) 113 13 (nI 2)) := pI_L l13 13 _ (by decide) (by decide)
  have fz : FR k (hI (hI (hI (hI (hI k 113 15 (nI (frI T n i))) 113 14 (nI (frI T n i))) 113 16 (nI (T (frI T n i)))) 113 15 (nI (rnE chL T n (frI T n i)))) 113 13 (nI 2)) [] [] [] [13, 14, 15, 16] := (f12.tr (fr_1 (by decide))).tr (fr_1 (by decide))
  have t6 : 6 ≤ tcI T n i := by
    unfold tcI tcF
    rw [if_neg (by omega), if_pos hL]
    split
    · decide
    · split
      · omega
      · decide
  have cl : clN (tcI T n i) = 2 := by
    unfold clN
    rw [if_neg (by omega), if_neg (by omega), if_neg (by omega), if_neg (by omega)]
  refine ⟨_, ?_, fz, rxt_fr fz (by decide) (by decide) rx, ?_, ?_, by rw [rI_eq, cl], fun e => by omega, fun _ e => by omega⟩
  · unfold f_X12_ahead
    rw [r0, Option.bind_some, a1, Option.bind_some, a2, Option.bind_some, a3, Option.bind_some, ck9, Option.bind_some, b', Option.bind_some, a4, Option.bind_some, if_neg (ah_m tb), ps, Option.bind_some, if_neg (show ¬ bI true = (0 : Int32) by decide), lp, Option.bind_some, p13, Option.bind_some]
  · rw [rI_nk (by decide), rI_nk (by decide), rI_nk (by decide), rI_eq]
  · rw [rI_nk (by decide), rI_eq, ex]
theorem r_ahD {k : aH} (kl : LAY k) {T : Nat → Nat} {n i : Nat} (rx : RXT k T n) (e15 : k.2.1 113 15 = nI (tpo T n i)) (u : frI T n i < n) (hL : chL (T (frI T n i)) = false) (hD : chD (T (frI T n i)) = true) : ∃ k', f_X12_ahead k 113 = some k' ∧ FR k k' [] [] [] [13, 14, 15, 16] ∧ RX k' T n i := by
  obtain ⟨r0, a1, a2, a3, ck9, b', a4⟩ := ah_pre kl rx e15
  have n9 := rx.1
  have fb := (fr_le (T := T) (n := n) (i := i)).2
  have tb := rx.2.2.1 (frI T n i)
  have eb : btI T n (frI T n i) = nI (T (frI T n i)) := if_pos u
  have ps := r_isS (h := hI (hI (hI k 113 15 (nI (frI T n i))) 113 14 (nI (frI T n i))) 113 16 (nI (T (frI T n i)))) (n := n) (j := frI T n i) rx.2.2.1
  have pd := r_isDg (h := hI (hI (hI k 113 15 (nI (frI T n i))) 113 14 (nI (frI T n i))) 113 16 (nI (T (frI T n i)))) (n := n) (j := frI T n i) rx.2.2.1
  rw [decide_eq_true u, Bool.true_and, eb, hL] at ps
  rw [decide_eq_true u, Bool.true_and, eb, hD] at pd
  rw [eb] at b'
  have ex : tpo T n (i + 1) = rnE chD T n (frI T n i) := by
    rw [tpo_s]
    unfold tkX
    rw [if_neg (by omega), if_neg (by rw [hL]; decide), if_pos hD]
  obtain ⟨d1, d2, d3, d4⟩ := rn_in (p := chD) (T := T) (n := n) (e := frI T n i) fb
  have etc : tcI T n i = if 4 < rnE chD T n (frI T n i) - frI T n i then 1 else 2 := by
    unfold tcI tcF
    rw [if_neg (by omega), if_neg (by rw [hL]; decide), if_pos hD]
  obtain ⟨k12, e12⟩ : ∃ k12, k12 = hI (hI (hI k 113 15 (nI (frI T n i))) 113 14 (nI (frI T n i))) 113 16 (nI (T (frI T n i))) := ⟨_, rfl⟩
  rw [← e12] at ps pd
  have a4' : pI (hI (hI k 113 15 (nI (frI T n i))) 113 14 (nI (frI T n i))) 12 113 16 (nI (T (frI T n i))) = some k12 := by rw [e12]; exact a4 _
  have f12 : FR k k12 [] [] [] [13, 14, 15, 16] := by rw [e12]; exact ((fr_1 (by decide)).tr (fr_1 (by decide))).tr (fr_1 (by decide))
  have l12 : LAY k12 := f12.lay kl
  have q15 : k12.2.1 113 15 = nI (frI T n i) := by rw [e12, rI_nk (by decide), rI_nk (by decide), rI_eq]
  have q14 : k12.2.1 113 14 = nI (frI T n i) := by rw [e12, rI_nk (by decide), rI_eq]
  have rx12 := rxt_fr f12 (by decide) (by decide) rx
  have rx0 : RXT (hI k12 113 16 (nI 0)) T n := ⟨rx12.1, (rI_nk (by decide)).trans rx12.2.1, rx12.2.2.1, rx12.2.2.2⟩
  have lp := r_digits (k := hI k12 113 16 (nI 0)) l12 rx0 fb ((rI_nk (by decide)).trans q15) rI_eq
  rw [hI_hI] at lp
  obtain ⟨k31, e31⟩ : ∃ k31, k31 = hI (hI k12 113 16 (nI (nvN T (frI T n i) (rnE chD T n (frI T n i) - frI T n i)))) 113 15 (nI (rnE chD T n (frI T n i))) := ⟨_, rfl⟩
  rw [← e31] at lp
  have f31 : FR k k31 [] [] [] [13, 14, 15, 16] := by rw [e31]; exact (f12.tr (fr_1 (by decide))).tr (fr_1 (by decide))
  have l31 : LAY k31 := f31.lay kl
  have z15 : k31.2.1 113 15 = nI (rnE chD T n (frI T n i)) := by rw [e31, rI_eq]
  have z14 : k31.2.1 113 14 = nI (frI T n i) := by rw [e31, rI_nk (by decide), rI_nk (by decide)]; exact q14
  have z16 : k31.2.1 113 16 = nI (nvN T (frI T n i) (rnE chD T n (frI T n i) - frI T n i)) := by rw [e31, rI_nk (by decide), rI_eq]
  have p16 : pI k12 12 113 16 (0 : Int32) = some (hI k12 113 16 (nI 0)) := pI_L l12 16 _ (by decide) (by decide)
  have g15 : gI k31 12 113 15 = some (nI (rnE chD T n (frI T n i))) := (gI_L l31 15 (by decide) (by decide)).trans (congrArg some z15)
  have g14 : gI k31 12 113 14 = some (nI (frI T n i)) := (gI_L l31 14 (by decide) (by decide)).trans (congrArg some z14)
  have sb : nI (rnE chD T n (frI T n i)) - nI (frI T n i) = nI (rnE chD T n (frI T n i) - frI T n i) := nn_sub d1
  have p13 : ∀ x, pI k31 12 113 13 x = some (hI k31 113 13 x) := fun x => pI_L l31 13 x (by decide) (by decide)
  have fz : ∀ x, FR k (hI k31 113 13 x) [] [] [] [13, 14, 15, 16] := fun x => f31.tr (fr_1 (by decide))
  rcases Nat.lt_or_ge 4 (rnE chD T n (frI T n i) - frI T n i) with v | v
  · rw [if_pos v] at etc
    refine ⟨_, ?_, fz (nI 1), rxt_fr (fz (nI 1)) (by decide) (by decide) rx, (rI_nk (by decide)).trans z14, by rw [rI_nk (by decide), z15, ex], by rw [rI_eq, etc]; rfl, fun e => by omega, fun e _ => by omega⟩
    unfold f_X12_ahead
    rw [r0, Option.bind_some, a1, Option.bind_some, a2, Option.bind_some, a3, Option.bind_some, ck9, Option.bind_some, b', Option.bind_some, a4', Option.bind_some, if_neg (ah_m tb), ps, Option.bind_some, if_pos (show bI false = (0 : Int32) by decide), pd, Option.bind_some, if_neg (show ¬ bI true = (0 : Int32) by decide), p16, Option.bind_some, lp, Option.bind_some, g15, Option.bind_some, g14, Option.bind_some, sb, if_neg (show ¬ nI (rnE chD T n (frI T n i) - frI T n i) ≤ (4 : Int32) from nI_ge (a := 4) v (by omega)), p13, Option.bind_some]
    rfl
  · rw [if_neg (by omega)] at etc
    refine ⟨_, ?_, fz (nI 3), rxt_fr (fz (nI 3)) (by decide) (by decide) rx, (rI_nk (by decide)).trans z14, by rw [rI_nk (by decide), z15, ex], by rw [rI_eq, etc]; rfl, fun e => ?_, fun e _ => by omega⟩
    · unfold f_X12_ahead
      rw [r0, Option.bind_some, a1, Option.bind_some, a2, Option.bind_some, a3, Option.bind_some, ck9, Option.bind_some, b', Option.bind_some, a4', Option.bind_some, if_neg (ah_m tb), ps, Option.bind_some, if_pos (show bI false = (0 : Int32) by decide), pd, Option.bind_some, if_neg (show ¬ bI true = (0 : Int32) by decide), p16, Option.bind_some, lp, Option.bind_some, g15, Option.bind_some, g14, Option.bind_some, sb, if_pos (show nI (rnE chD T n (frI T n i) - frI T n i) ≤ (4 : Int32) from nI_le (b := 4) v (by decide)), p13, Option.bind_some]
      rfl
    · rw [rI_nk (by decide), z16, nv_nu _ v (fun j hj => d3 _ (by omega) (by omega))]
      rfl
theorem r_ahS {k : aH} (kl : LAY k) {T : Nat → Nat} {n i : Nat} (rx : RXT k T n) (e15 : k.2.1 113 15 = nI (tpo T n i)) (u : frI T n i < n) (hL : chL (T (frI T n i)) = false) (hD : chD (T (frI T n i)) = false) : ∃ k', f_X12_ahead k 113 = some k' ∧ FR k k' [] [] [] [13, 14, 15, 16] ∧ RX k' T n i := by
  obtain ⟨r0, a1, a2, a3, ck9, b', a4⟩ := ah_pre kl rx e15
  have fb := (fr_le (T := T) (n := n) (i := i)).2
  have tb := rx.2.2.1 (frI T n i)
  have eb : btI T n (frI T n i) = nI (T (frI T n i)) := if_pos u
  have ps := r_isS (h := hI (hI (hI k 113 15 (nI (frI T n i))) 113 14 (nI (frI T n i))) 113 16 (nI (T (frI T n i)))) (n := n) (j := frI T n i) rx.2.2.1
  have pd := r_isDg (h := hI (hI (hI k 113 15 (nI (frI T n i))) 113 14 (nI (frI T n i))) 113 16 (nI (T (frI T n i)))) (n := n) (j := frI T n i) rx.2.2.1
  rw [decide_eq_true u, Bool.true_and, eb, hL] at ps
  rw [decide_eq_true u, Bool.true_and, eb, hD] at pd
  rw [eb] at b'
  have ex : tpo T n (i + 1) = frI T n i + 1 := by
    rw [tpo_s]
    unfold tkX
    rw [if_neg (by omega), if_neg (by rw [hL]; decide), if_neg (by rw [hD]; decide)]
  have etc : tcI T n i = sgcN (T (frI T n i)) := by
    unfold tcI tcF
    rw [if_neg (by omega), if_neg (by rw [hL]; decide), if_neg (by rw [hD]; decide)]
    rfl
  obtain ⟨k12, e12⟩ : ∃ k12, k12 = hI (hI (hI k 113 15 (nI (frI T n i))) 113 14 (nI (frI T n i))) 113 16 (nI (T (frI T n i))) := ⟨_, rfl⟩
  rw [← e12] at ps pd
  have a4' : pI (hI (hI k 113 15 (nI (frI T n i))) 113 14 (nI (frI T n i))) 12 113 16 (nI (T (frI T n i))) = some k12 := by rw [e12]; exact a4 _
  have f12 : FR k k12 [] [] [] [13, 14, 15, 16] := by rw [e12]; exact ((fr_1 (by decide)).tr (fr_1 (by decide))).tr (fr_1 (by decide))
  have l12 : LAY k12 := f12.lay kl
  have q15 : gI k12 12 113 15 = some (nI (frI T n i)) := (gI_L l12 15 (by decide) (by decide)).trans (by rw [e12, rI_nk (by decide), rI_nk (by decide), rI_eq])
  have q14 : k12.2.1 113 14 = nI (frI T n i) := by rw [e12, rI_nk (by decide), rI_eq]
  have q16 : k12.2.1 113 16 = nI (T (frI T n i)) := by rw [e12, rI_eq]
  have p15 : pI k12 12 113 15 (nI (frI T n i) + (1 : Int32)) = some (hI k12 113 15 (nI (frI T n i + 1))) := by
    rw [nI_1]
    exact pI_L l12 15 _ (by decide) (by decide)
  have l16 : LAY (hI k12 113 15 (nI (frI T n i + 1))) := l12
  have p13 : ∀ x, pI (hI k12 113 15 (nI (frI T n i + 1))) 12 113 13 x = some (hI (hI k12 113 15 (nI (frI T n i + 1))) 113 13 x) := fun x => pI_L l16 13 x (by decide) (by decide)
  have fz : ∀ x, FR k (hI (hI k12 113 15 (nI (frI T n i + 1))) 113 13 x) [] [] [] [13, 14, 15, 16] := fun x => (f12.tr (fr_1 (by decide))).tr (fr_1 (by decide))
  refine ⟨_, ?_, fz (nI (clN (sgcN (T (frI T n i))))), rxt_fr (fz _) (by decide) (by decide) rx, ?_, ?_, by rw [rI_eq, etc], fun e => ?_, fun _ _ => ?_⟩
  · unfold f_X12_ahead
    rw [r0, Option.bind_some, a1, Option.bind_some, a2, Option.bind_some, a3, Option.bind_some, ck9, Option.bind_some, b', Option.bind_some, a4', Option.bind_some, if_neg (ah_m tb), ps, Option.bind_some, if_pos (show bI false = (0 : Int32) by decide), pd, Option.bind_some, if_pos (show bI false = (0 : Int32) by decide), q15, Option.bind_some, p15, Option.bind_some]
    by_cases h1 : T (frI T n i) = 59
    · rw [h1, if_pos (by decide), p13, Option.bind_some]
      rfl
    · rw [if_neg (show ¬ nI (T (frI T n i)) = (59 : Int32) from d_ne (b := 59) (by omega) (by decide) h1)]
      by_cases h2 : T (frI T n i) = 40
      · rw [h2, if_pos (by decide), p13, Option.bind_some]
        rfl
      · rw [if_neg (show ¬ nI (T (frI T n i)) = (40 : Int32) from d_ne (b := 40) (by omega) (by decide) h2)]
        by_cases h3 : T (frI T n i) = 41
        · rw [h3, if_pos (by decide), p13, Option.bind_some]
          rfl
        · rw [if_neg (show ¬ nI (T (frI T n i)) = (41 : Int32) from d_ne (b := 41) (by omega) (by decide) h3), p13, Option.bind_some]
          have : sgcN (T (frI T n i)) = 1 := by
            unfold sgcN
            rw [if_neg h2, if_neg h3, if_neg h1]
          rw [this]
          rfl
  · rw [rI_nk (by decide), rI_nk (by decide)]
    exact q14
  · rw [rI_nk (by decide), rI_eq, ex]
  · exfalso
    rw [etc] at e
    unfold sgcN at e
    repeat' split at e
    all_goals cases e
  · rw [rI_nk (by decide), rI_nk (by decide)]
    exact q16
theorem r_ahead1 {k : aH} (kl : LAY k) {T : Nat → Nat} {n i : Nat} (rx : RXT k T n) (e15 : k.2.1 113 15 = nI (tpo T n i)) : ∃ k', f_X12_ahead k 113 = some k' ∧ FR k k' [] [] [] [13, 14, 15, 16] ∧ RX k' T n i := by
  rcases Nat.lt_or_ge (frI T n i) n with u | u
  · cases hL : chL (T (frI T n i)) with
    | true => exact r_ahW kl rx e15 u hL
    | false =>
      cases hD : chD (T (frI T n i)) with
      | true => exact r_ahD kl rx e15 u hL hD
      | false => exact r_ahS kl rx e15 u hL hD
  · exact r_ahE kl rx e15 u
theorem r_ahead {k : aH} (kl : LAY k) {T : Nat → Nat} {n i : Nat} (rx : RX k T n i) : ∃ k', f_X12_ahead k 113 = some k' ∧ FR k k' [] [] [] [13, 14, 15, 16] ∧ RX k' T n (i + 1) := r_ahead1 kl rx.1 rx.2.2.1
