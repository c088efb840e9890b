/-! ===== fractions ===== -/
theorem lz_e {b : Nat} (hb : b < 2 ^ 63) : (lg_cmp (lN b) (lN 0) = nI 0) ↔ b = 0 := by
  rw [lcmp_e]
  exact pk_lEQ hb (by decide)
theorem lz_n {b : Nat} (hb : b < 2 ^ 63) (h0 : 0 < b) : nzL (lN b) = some () := by
  unfold nzL
  rw [if_neg (fun e => by
    have := (pk_lEQ hb (show 0 < 2 ^ 63 by decide)).mp e
    omega)]
theorem gcd_s {a b : Nat} : Nat.gcd b (a % b) = Nat.gcd a b := by
  rw [Nat.gcd_comm a b, Nat.gcd_rec b a, Nat.gcd_comm]
theorem half {b r : Nat} (h0 : 0 < r) (h1 : r < b) : 2 * (b % r) < b := by
  have h2 := Nat.mod_lt b h0
  have h3 := Nat.div_add_mod b r
  have h4 : 1 ≤ b / r := (Nat.one_le_div_iff h0).mpr (by omega)
  have h5 : r * 1 ≤ r * (b / r) := Nat.mul_le_mul_left r h4
  omega
theorem eu_r {h : aH} {v1 v3 : Int64} : ∀ k a b fuel, a < 2 ^ 63 → b < 2 ^ 63 → b < 2 ^ k → 2 * k + 1 ≤ fuel → whileL fuel (fun q : Int64 × Int64 => f_X12_tellsBy_b6 h 113 v1 v3 q.1 q.2) (lN a, lN b) = some (lN (Nat.gcd a b))
  | 0, a, b, fuel + 1, ha, hb, hk, hf => by
    obtain rfl : b = 0 := by omega
    show (f_X12_tellsBy_b6 h 113 v1 v3 (lN a) (lN 0)).bind _ = _
    have := (lz_e (b := 0) (by decide)).mpr rfl
    simp (disch := first | assumption | omega | decide | ((repeat first | apply lyI | apply lyJ | apply lywI | apply lywJ | apply csI | apply csJ | apply cswI | apply cswJ); assumption)) only [f_X12_tellsBy_b6, LI, ↓li_m1, nI_add, pk_mul, nn_sub, nn_m1, nn_div, nn_rem, nn_nz, nn_mod, nJ_l, lN_add, lN_mul, nn_tb1, nI_bt, nn_and, nn_or, nn_xor, nn_shr, nn_1shl, nn_31, il_p, il_n, it_p, it_n, ie_p, ie_n, ie_b, ie_b1, ie_m, ie_mm, it_m, it_m0, il_m0, bI_rZ, Option.bind_some, bd2_some, Nat.add_zero, Nat.zero_add, if_true, if_false, Bool.false_eq_true, eq_self, hI_R, hJ_R, ng_t, ng_e, LJ, this, Nat.gcd_zero_right]
    rfl
  | k + 1, a, b, fuel + 2, ha, hb, hk, hf => by
    by_cases h0 : b = 0
    · subst h0
      show (f_X12_tellsBy_b6 h 113 v1 v3 (lN a) (lN 0)).bind _ = _
      have := (lz_e (b := 0) (by decide)).mpr rfl
      simp (disch := first | assumption | omega | decide | ((repeat first | apply lyI | apply lyJ | apply lywI | apply lywJ | apply csI | apply csJ | apply cswI | apply cswJ); assumption)) only [f_X12_tellsBy_b6, LI, ↓li_m1, nI_add, pk_mul, nn_sub, nn_m1, nn_div, nn_rem, nn_nz, nn_mod, nJ_l, lN_add, lN_mul, nn_tb1, nI_bt, nn_and, nn_or, nn_xor, nn_shr, nn_1shl, nn_31, il_p, il_n, it_p, it_n, ie_p, ie_n, ie_b, ie_b1, ie_m, ie_mm, it_m, it_m0, il_m0, bI_rZ, Option.bind_some, bd2_some, Nat.add_zero, Nat.zero_add, if_true, if_false, Bool.false_eq_true, eq_self, hI_R, hJ_R, ng_t, ng_e, LJ, this, Nat.gcd_zero_right]
      rfl
    · have n1 : ¬ lg_cmp (lN b) (lN 0) = nI 0 := fun e => h0 ((lz_e hb).mp e)
      have n2 := lz_n hb (by omega)
      have n3 := pk_lRem ha (show 0 < b by omega) hb
      have rl := Nat.mod_lt a (show 0 < b by omega)
      have s1 : f_X12_tellsBy_b6 h 113 v1 v3 (lN a) (lN b) = some (.inl (lN b, lN (a % b))) := by
        simp only [f_X12_tellsBy_b6, LJ, LI, if_neg n1, n2, n3, Option.bind_some]
      show (f_X12_tellsBy_b6 h 113 v1 v3 (lN a) (lN b)).bind _ = _
      rw [s1]
      show whileL (fuel + 1) (fun q : Int64 × Int64 => f_X12_tellsBy_b6 h 113 v1 v3 q.1 q.2) (lN b, lN (a % b)) = _
      by_cases h1 : a % b = 0
      · show (f_X12_tellsBy_b6 h 113 v1 v3 (lN b) (lN (a % b))).bind _ = _
        have := (lz_e (b := 0) (by decide)).mpr rfl
        rw [h1]
        simp (disch := first | assumption | omega | decide | ((repeat first | apply lyI | apply lyJ | apply lywI | apply lywJ | apply csI | apply csJ | apply cswI | apply cswJ); assumption)) only [f_X12_tellsBy_b6, LI, ↓li_m1, nI_add, pk_mul, nn_sub, nn_m1, nn_div, nn_rem, nn_nz, nn_mod, nJ_l, lN_add, lN_mul, nn_tb1, nI_bt, nn_and, nn_or, nn_xor, nn_shr, nn_1shl, nn_31, il_p, il_n, it_p, it_n, ie_p, ie_n, ie_b, ie_b1, ie_m, ie_mm, it_m, it_m0, il_m0, bI_rZ, Option.bind_some, bd2_some, Nat.add_zero, Nat.zero_add, if_true, if_false, Bool.false_eq_true, eq_self, hI_R, hJ_R, ng_t, ng_e, LJ, this]
        rw [← gcd_s, h1, Nat.gcd_zero_right]
        rfl
      · have m1' : ¬ lg_cmp (lN (a % b)) (lN 0) = nI 0 := fun e => h1 ((lz_e (by omega)).mp e)
        have m2 := lz_n (show a % b < 2 ^ 63 by omega) (by omega)
        have m3 := pk_lRem hb (show 0 < a % b by omega) (by omega)
        have s2 : f_X12_tellsBy_b6 h 113 v1 v3 (lN b) (lN (a % b)) = some (.inl (lN (a % b), lN (b % (a % b)))) := by
          simp only [f_X12_tellsBy_b6, LJ, LI, if_neg m1', m2, m3, Option.bind_some]
        show (f_X12_tellsBy_b6 h 113 v1 v3 (lN b) (lN (a % b))).bind _ = _
        rw [s2]
        show whileL fuel (fun q : Int64 × Int64 => f_X12_tellsBy_b6 h 113 v1 v3 q.1 q.2) (lN (a % b), lN (b % (a % b))) = _
        have hh := half (show 0 < a % b by omega) rl
        have e2 : 2 ^ (k + 1) = 2 ^ k * 2 := Nat.pow_succ 2 k
        rw [eu_r k (a % b) (b % (a % b)) fuel (by omega) (by omega) (by omega) (by omega), gcd_s, gcd_s]
theorem eu_c {h : aH} {v1 v3 : Int64} : ∀ k a b i fuel, a < 2 ^ 63 → b < 2 ^ 63 → b < 2 ^ k → 2 * k + 1 ≤ fuel → i + 2 * k ≤ 200 → whileL fuel (fun q : Int64 × Int64 × Int32 => f_X11_tell_b9 h 0 v1 v3 q.1 q.2.1 q.2.2) (lN a, lN b, nI i) = some (lN (Nat.gcd a b))
  | 0, a, b, i, fuel + 1, ha, hb, hk, hf, hi => by
    obtain rfl : b = 0 := by omega
    show (f_X11_tell_b9 h 0 v1 v3 (lN a) (lN 0) (nI i)).bind _ = _
    have := (lz_e (b := 0) (by decide)).mpr rfl
    by_cases h2 : i < 200
    · simp (disch := first | assumption | omega | decide | ((repeat first | apply lyI | apply lyJ | apply lywI | apply lywJ | apply csI | apply csJ | apply cswI | apply cswJ); assumption)) only [f_X11_tell_b9, LI, ↓li_m1, nI_add, pk_mul, nn_sub, nn_m1, nn_div, nn_rem, nn_nz, nn_mod, nJ_l, lN_add, lN_mul, nn_tb1, nI_bt, nn_and, nn_or, nn_xor, nn_shr, nn_1shl, nn_31, il_p, il_n, it_p, it_n, ie_p, ie_n, ie_b, ie_b1, ie_m, ie_mm, it_m, it_m0, il_m0, bI_rZ, Option.bind_some, bd2_some, Nat.add_zero, Nat.zero_add, if_true, if_false, Bool.false_eq_true, eq_self, hI_R, hJ_R, ng_t, ng_e, LJ, this, Nat.gcd_zero_right]
      rfl
    · simp (disch := first | assumption | omega | decide | ((repeat first | apply lyI | apply lyJ | apply lywI | apply lywJ | apply csI | apply csJ | apply cswI | apply cswJ); assumption)) only [f_X11_tell_b9, LI, ↓li_m1, nI_add, pk_mul, nn_sub, nn_m1, nn_div, nn_rem, nn_nz, nn_mod, nJ_l, lN_add, lN_mul, nn_tb1, nI_bt, nn_and, nn_or, nn_xor, nn_shr, nn_1shl, nn_31, il_p, il_n, it_p, it_n, ie_p, ie_n, ie_b, ie_b1, ie_m, ie_mm, it_m, it_m0, il_m0, bI_rZ, Option.bind_some, bd2_some, Nat.add_zero, Nat.zero_add, if_true, if_false, Bool.false_eq_true, eq_self, hI_R, hJ_R, ng_t, ng_e, LJ, this, Nat.gcd_zero_right]
      rfl
  | k + 1, a, b, i, fuel + 2, ha, hb, hk, hf, hi => by
    by_cases h0 : b = 0
    · subst h0
      show (f_X11_tell_b9 h 0 v1 v3 (lN a) (lN 0) (nI i)).bind _ = _
      have := (lz_e (b := 0) (by decide)).mpr rfl
      simp (disch := first | assumption | omega | decide | ((repeat first | apply lyI | apply lyJ | apply lywI | apply lywJ | apply csI | apply csJ | apply cswI | apply cswJ); assumption)) only [f_X11_tell_b9, LI, ↓li_m1, nI_add, pk_mul, nn_sub, nn_m1, nn_div, nn_rem, nn_nz, nn_mod, nJ_l, lN_add, lN_mul, nn_tb1, nI_bt, nn_and, nn_or, nn_xor, nn_shr, nn_1shl, nn_31, il_p, il_n, it_p, it_n, ie_p, ie_n, ie_b, ie_b1, ie_m, ie_mm, it_m, it_m0, il_m0, bI_rZ, Option.bind_some, bd2_some, Nat.add_zero, Nat.zero_add, if_true, if_false, Bool.false_eq_true, eq_self, hI_R, hJ_R, ng_t, ng_e, LJ, this, Nat.gcd_zero_right]
      rfl
    · have n1 : ¬ lg_cmp (lN b) (lN 0) = nI 0 := fun e => h0 ((lz_e hb).mp e)
      have n2 := lz_n hb (by omega)
      have n3 := pk_lRem ha (show 0 < b by omega) hb
      have rl := Nat.mod_lt a (show 0 < b by omega)
      have s1 : f_X11_tell_b9 h 0 v1 v3 (lN a) (lN b) (nI i) = some (.inl (lN b, lN (a % b), nI (i + 1))) := by
        simp (disch := first | assumption | omega | decide | ((repeat first | apply lyI | apply lyJ | apply lywI | apply lywJ | apply csI | apply csJ | apply cswI | apply cswJ); assumption)) only [f_X11_tell_b9, LI, ↓li_m1, nI_add, pk_mul, nn_sub, nn_m1, nn_div, nn_rem, nn_nz, nn_mod, nJ_l, lN_add, nn_tb1, nI_bt, nn_and, nn_or, nn_xor, nn_shr, nn_1shl, nn_31, il_p, il_n, it_p, it_n, ie_p, ie_n, ie_b, ie_b1, ie_m, ie_mm, it_m, it_m0, il_m0, bI_rZ, Option.bind_some, bd2_some, Nat.add_zero, Nat.zero_add, if_true, if_false, Bool.false_eq_true, eq_self, hI_R, hJ_R, ng_t, ng_e, LJ, if_neg n1, n2]
        rw [n3]
      show (f_X11_tell_b9 h 0 v1 v3 (lN a) (lN b) (nI i)).bind _ = _
      rw [s1]
      show whileL (fuel + 1) (fun q : Int64 × Int64 × Int32 => f_X11_tell_b9 h 0 v1 v3 q.1 q.2.1 q.2.2) (lN b, lN (a % b), nI (i + 1)) = _
      by_cases h1 : a % b = 0
      · show (f_X11_tell_b9 h 0 v1 v3 (lN b) (lN (a % b)) (nI (i + 1))).bind _ = _
        have := (lz_e (b := 0) (by decide)).mpr rfl
        rw [h1]
        simp (disch := first | assumption | omega | decide | ((repeat first | apply lyI | apply lyJ | apply lywI | apply lywJ | apply csI | apply csJ | apply cswI | apply cswJ); assumption)) only [f_X11_tell_b9, LI, ↓li_m1, nI_add, pk_mul, nn_sub, nn_m1, nn_div, nn_rem, nn_nz, nn_mod, nJ_l, lN_add, lN_mul, nn_tb1, nI_bt, nn_and, nn_or, nn_xor, nn_shr, nn_1shl, nn_31, il_p, il_n, it_p, it_n, ie_p, ie_n, ie_b, ie_b1, ie_m, ie_mm, it_m, it_m0, il_m0, bI_rZ, Option.bind_some, bd2_some, Nat.add_zero, Nat.zero_add, if_true, if_false, Bool.false_eq_true, eq_self, hI_R, hJ_R, ng_t, ng_e, LJ, this]
        rw [← gcd_s, h1, Nat.gcd_zero_right]
        rfl
      · have m1' : ¬ lg_cmp (lN (a % b)) (lN 0) = nI 0 := fun e => h1 ((lz_e (by omega)).mp e)
        have m2 := lz_n (show a % b < 2 ^ 63 by omega) (by omega)
        have m3 := pk_lRem hb (show 0 < a % b by omega) (by omega)
        have s2 : f_X11_tell_b9 h 0 v1 v3 (lN b) (lN (a % b)) (nI (i + 1)) = some (.inl (lN (a % b), lN (b % (a % b)), nI (i + 1 + 1))) := by
          simp (disch := first | assumption | omega | decide | ((repeat first | apply lyI | apply lyJ | apply lywI | apply lywJ | apply csI | apply csJ | apply cswI | apply cswJ); assumption)) only [f_X11_tell_b9, LI, ↓li_m1, nI_add, pk_mul, nn_sub, nn_m1, nn_div, nn_rem, nn_nz, nn_mod, nJ_l, lN_add, nn_tb1, nI_bt, nn_and, nn_or, nn_xor, nn_shr, nn_1shl, nn_31, il_p, il_n, it_p, it_n, ie_p, ie_n, ie_b, ie_b1, ie_m, ie_mm, it_m, it_m0, il_m0, bI_rZ, Option.bind_some, bd2_some, Nat.add_zero, Nat.zero_add, if_true, if_false, Bool.false_eq_true, eq_self, hI_R, hJ_R, ng_t, ng_e, LJ, if_neg m1', m2]
          rw [m3]
        show (f_X11_tell_b9 h 0 v1 v3 (lN b) (lN (a % b)) (nI (i + 1))).bind _ = _
        rw [s2]
        show whileL fuel (fun q : Int64 × Int64 × Int32 => f_X11_tell_b9 h 0 v1 v3 q.1 q.2.1 q.2.2) (lN (a % b), lN (b % (a % b)), nI (i + 1 + 1)) = _
        have hh := half (show 0 < a % b by omega) rl
        have e2 : 2 ^ (k + 1) = 2 ^ k * 2 := Nat.pow_succ 2 k
        rw [eu_c k (a % b) (b % (a % b)) (i + 1 + 1) fuel (by omega) (by omega) (by omega) (by omega) (by omega), gcd_s, gcd_s]
theorem k_tell {h : aH} (hl : LAY h) {a b : Nat} (ha : a < 2 ^ 63) (hb : b < 2 ^ 63) (h0 : 0 < b) : f_X11_tell h 0 (lN a) (lN b) = some (hJ (hJ h 0 18 (lN (a / Nat.gcd a b))) 0 19 (lN (b / Nat.gcd a b))) := by
  have g0 : 0 < Nat.gcd a b := Nat.gcd_pos_of_pos_right a h0
  have gl : Nat.gcd a b ≤ b := Nat.gcd_le_right a h0
  have e1 : f_X11_tell_l9 h 0 (lN a) (lN b) (lN b) (lN a) (nI 0) = some (lN (Nat.gcd a b)) := by
    rw [Nat.gcd_comm]
    exact eu_c 63 b a 0 wN hb ha ha (by rw [wN_e]; decide) (by decide)
  have n2 := lz_n (show Nat.gcd a b < 2 ^ 63 by omega) g0
  have n3 : ¬ lg_cmp (lN (Nat.gcd a b)) (lN 0) ≤ nI 0 := by
    unfold lg_cmp
    rw [if_pos ((pk_lLT (by decide) (by omega)).mpr g0)]
    decide
  have d1 := pk_lDiv ha g0 (show Nat.gcd a b < 2 ^ 63 by omega)
  have d2 := pk_lDiv hb g0 (show Nat.gcd a b < 2 ^ 63 by omega)
  simp (disch := first | assumption | omega | decide | ((repeat first | apply lyI | apply lyJ | apply lywI | apply lywJ | apply csI | apply csJ | apply cswI | apply cswJ); assumption)) only [f_X11_tell, f_X11_tell_j45, S0, LI, ↓li_m1, nI_add, pk_mul, nn_sub, nn_m1, nn_div, nn_rem, nn_nz, nn_mod, nJ_l, lN_add, lN_mul, nn_tb1, nI_bt, nn_and, nn_or, nn_xor, nn_shr, nn_1shl, nn_31, il_p, il_n, it_p, it_n, ie_p, ie_n, ie_b, ie_b1, ie_m, ie_mm, it_m, it_m0, il_m0, bI_rZ, Option.bind_some, bd2_some, Nat.add_zero, Nat.zero_add, if_true, if_false, Bool.false_eq_true, eq_self, hI_R, hJ_R, ng_t, ng_e, LJ, e1, if_neg n3, n2, d1, d2]
theorem r_tells {h : aH} (hl : LAY h) {a b : Nat} (ha : a < 2 ^ 63) (hb : b < 2 ^ 63) (h0 : 0 < b) : f_X12_tellsBy h 113 (lN a) (lN b) = some (nI 1, hI (hJ (hJ h 113 4 (lN (a / Nat.gcd a b))) 113 5 (lN (b / Nat.gcd a b))) 113 3 (nI 0)) := by
  have g0 : 0 < Nat.gcd a b := Nat.gcd_pos_of_pos_right a h0
  have gl : Nat.gcd a b ≤ b := Nat.gcd_le_right a h0
  have e1 : f_X12_tellsBy_l6 h 113 (lN a) (lN b) (lN a) (lN b) = some (lN (Nat.gcd a b)) := eu_r 63 a b wN ha hb hb (by rw [wN_e]; decide)
  have n2 := lz_n (show Nat.gcd a b < 2 ^ 63 by omega) g0
  have d1 := pk_lDiv ha g0 (show Nat.gcd a b < 2 ^ 63 by omega)
  have d2 := pk_lDiv hb g0 (show Nat.gcd a b < 2 ^ 63 by omega)
  simp (disch := first | assumption | omega | decide | ((repeat first | apply lyI | apply lyJ | apply lywI | apply lywJ | apply csI | apply csJ | apply cswI | apply cswJ); assumption)) only [f_X12_tellsBy, f_X12_is, SM, LI, ↓li_m1, nI_add, pk_mul, nn_sub, nn_m1, nn_div, nn_rem, nn_nz, nn_mod, nJ_l, lN_add, lN_mul, nn_tb1, nI_bt, nn_and, nn_or, nn_xor, nn_shr, nn_1shl, nn_31, il_p, il_n, it_p, it_n, ie_p, ie_n, ie_b, ie_b1, ie_m, ie_mm, it_m, it_m0, il_m0, bI_rZ, Option.bind_some, bd2_some, Nat.add_zero, Nat.zero_add, if_true, if_false, Bool.false_eq_true, eq_self, hI_R, hJ_R, ng_t, ng_e, LJ, e1, n2, d1, d2]
  rfl
