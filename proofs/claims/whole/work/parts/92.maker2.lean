/-! ===== sets of sayings ===== -/
def F32 : Nat := 4294967295
theorem m1_n : m1 = nI F32 := by decide
theorem sb1 {n q : Nat} (hq : q < 32) : (nI n >>> nI q) &&& nI 1 = bI (n.testBit q) := by
  apply nn_inj
  apply BitVec.eq_of_getLsbD_eq
  intro i hi
  rw [Int32.toBitVec_and, Int32.toBitVec_shiftRight, BitVec.sshiftRight', nn_sm q hq, BitVec.getLsbD_and, nn_tb, nn_tb]
  have t0 : ∀ c : Bool, (bI c).toBitVec.getLsbD i = (c && decide (i = 0)) := fun c => by
    cases c
    · show (0#32).getLsbD i = _
      simp
    · show (1#32).getLsbD i = _
      rw [BitVec.getLsbD_one]
      simp
  rw [t0]
  by_cases h0 : i = 0
  · subst h0
    rw [BitVec.getLsbD_sshiftRight, BitVec.getLsbD_ofNat, BitVec.getLsbD_ofNat]
    simp [hq]
  · rw [decide_eq_false h0, Bool.and_false, show (BitVec.ofNat 32 1).getLsbD i = false from by rw [show BitVec.ofNat 32 1 = 1#32 from rfl, BitVec.getLsbD_one]; simp [h0], Bool.and_false]
theorem bI_shl {b : Bool} : ∀ {s}, s < 32 → bI b <<< nI s = nI (if b = true then 2 ^ s else 0) := by
  cases b <;> decide +kernel
theorem xF {x i : Nat} (hi : i < 32) : (x ^^^ F32).testBit i = !x.testBit i := by
  rw [Nat.testBit_xor, show F32 = 2 ^ 32 - 1 from rfl, Nat.testBit_two_pow_sub_one, decide_eq_true hi, Bool.xor_true]
def syN (a b : Nat) : Nat → Nat := orN (fun q => (if a.testBit q = true then 2 ^ (2 * q) else 0) ||| (if b.testBit q = true then 2 ^ (2 * q + 1) else 0))
theorem sy_bit {a b n s : Nat} (hs : s < 2 * n) : (syN a b n).testBit s = if s % 2 = 0 then a.testBit (s / 2) else b.testBit (s / 2) := by
  unfold syN
  rw [orN_bit]
  have e : ∀ q, ((if a.testBit q = true then 2 ^ (2 * q) else 0) ||| (if b.testBit q = true then 2 ^ (2 * q + 1) else 0)).testBit s = ((a.testBit q && decide (2 * q = s)) || (b.testBit q && decide (2 * q + 1 = s))) := fun q => by
    rw [Nat.testBit_or]
    cases a.testBit q <;> cases b.testBit q <;> simp [Nat.testBit_two_pow]
  rw [anyB_congr (fun q _ => e q)]
  by_cases h2 : s % 2 = 0
  · rw [if_pos h2]
    cases ha : a.testBit (s / 2)
    · rw [anyB_f]
      intro q _
      rw [decide_eq_false (show ¬ 2 * q + 1 = s by omega), Bool.and_false, Bool.or_false]
      by_cases hq : 2 * q = s
      · rw [show q = s / 2 by omega, ha]
        rfl
      · rw [decide_eq_false hq, Bool.and_false]
    · rw [anyB_iff]
      exact ⟨s / 2, by omega, by rw [ha, decide_eq_true (show 2 * (s / 2) = s by omega)]; rfl⟩
  · rw [if_neg h2]
    cases hb : b.testBit (s / 2)
    · rw [anyB_f]
      intro q _
      rw [decide_eq_false (show ¬ 2 * q = s by omega), Bool.and_false, Bool.false_or]
      by_cases hq : 2 * q + 1 = s
      · rw [show q = s / 2 by omega, hb]
        rfl
      · rw [decide_eq_false hq, Bool.and_false]
    · rw [anyB_iff]
      exact ⟨s / 2, by omega, by rw [hb, decide_eq_true (show 2 * (s / 2) + 1 = s by omega), Bool.and_self, Bool.or_true]⟩
theorem sy_lt {a b : Nat} : syN a b 12 < 16777216 := orN_lt (k := 24) (fun i hi => Nat.or_lt_two_pow (by
  split
  · exact Nat.pow_lt_pow_right (by decide) (by omega)
  · decide) (by
  split
  · exact Nat.pow_lt_pow_right (by decide) (by omega)
  · decide))
theorem x_say {h : aH} {a b : Nat} : f_X0_sayingsOf h (nI a) (nI b) = some (nI (syN a b 12)) := by
  have e1 : f_X0_sayingsOf_l4 h (nI a) (nI b) (nI 0) (nI 0) = some (nI (syN a b 12)) := by
    refine for0 (body := fun zz : Int32 × Int32 => f_X0_sayingsOf_b4 h (nI a) (nI b) zz.1 zz.2) (fun j => (nI (syN a b j), nI j)) (12) (e := nI (syN a b 12)) (rfl) (by decide) (fun j hj => ?_) ?_
    · simp (disch := first | assumption | omega | decide | ((repeat first | apply lyI | apply lyJ | apply lywI | apply lywJ | apply csI | apply csJ | apply cswI | apply cswJ); assumption)) only [f_X0_sayingsOf_b4, LI, ↓li_m1, nI_add, pk_mul, nn_sub, nn_m1, nn_div, nn_rem, nn_nz, nn_mod, nJ_l, lN_add, lN_mul, nn_tb1, nI_bt, nn_and, nn_or, nn_xor, nn_shr, nn_1shl, nn_31, il_p, il_n, it_p, it_n, ie_p, ie_n, ie_b, ie_b1, ie_m, ie_mm, it_m, it_m0, il_m0, bI_rZ, Option.bind_some, bd2_some, Nat.add_zero, Nat.zero_add, if_true, if_false, Bool.false_eq_true, eq_self, hI_R, hJ_R, ng_t, ng_e, sb1, bI_shl]
      rfl
    · simp (disch := first | assumption | omega | decide | ((repeat first | apply lyI | apply lyJ | apply lywI | apply lywJ | apply csI | apply csJ | apply cswI | apply cswJ); assumption)) only [f_X0_sayingsOf_b4, LI, ↓li_m1, nI_add, pk_mul, nn_sub, nn_m1, nn_div, nn_rem, nn_nz, nn_mod, nJ_l, lN_add, lN_mul, nn_tb1, nI_bt, nn_and, nn_or, nn_xor, nn_shr, nn_1shl, nn_31, il_p, il_n, it_p, it_n, ie_p, ie_n, ie_b, ie_b1, ie_m, ie_mm, it_m, it_m0, il_m0, bI_rZ, Option.bind_some, bd2_some, Nat.add_zero, Nat.zero_add, if_true, if_false, Bool.false_eq_true, eq_self, hI_R, hJ_R, ng_t, ng_e]
  simp (disch := first | assumption | omega | decide | ((repeat first | apply lyI | apply lyJ | apply lywI | apply lywJ | apply csI | apply csJ | apply cswI | apply cswJ); assumption)) only [f_X0_sayingsOf, LI, ↓li_m1, nI_add, pk_mul, nn_sub, nn_m1, nn_div, nn_rem, nn_nz, nn_mod, nJ_l, lN_add, lN_mul, nn_tb1, nI_bt, nn_and, nn_or, nn_xor, nn_shr, nn_1shl, nn_31, il_p, il_n, it_p, it_n, ie_p, ie_n, ie_b, ie_b1, ie_m, ie_mm, it_m, it_m0, il_m0, bI_rZ, Option.bind_some, bd2_some, Nat.add_zero, Nat.zero_add, if_true, if_false, Bool.false_eq_true, eq_self, hI_R, hJ_R, ng_t, ng_e, e1]
/-- the lowest of a set -/
theorem low_bit {x a : Nat} (hx : x.testBit a = true) (hl : ∀ i, i < a → x.testBit i = false) (hx2 : x < 4294967296) : x &&& (4294967296 - x) = 2 ^ a := by
  have hm : x % 2 ^ a = 0 := by
    apply Nat.eq_of_testBit_eq
    intro i
    rw [Nat.testBit_mod_two_pow, Nat.zero_testBit]
    by_cases h : i < a
    · rw [hl i h, Bool.and_false]
    · rw [decide_eq_false h, Bool.false_and]
  have hd : (x / 2 ^ a) % 2 = 1 := by
    have := hx
    rw [Nat.testBit_eq_decide_div_mod_eq, decide_eq_true_iff] at this
    exact this
  have a32 : a < 32 := by
    rcases Nat.lt_or_ge a 32 with q | q
    · exact q
    · rw [Nat.testBit_lt_two_pow (Nat.lt_of_lt_of_le hx2 (Nat.pow_le_pow_right (by decide) q : 2 ^ 32 ≤ 2 ^ a))] at hx
      cases hx
  have xe : x = 2 ^ a * (x / 2 ^ a) + 0 := by
    have := Nat.div_add_mod x (2 ^ a)
    omega
  have p0 : 0 < 2 ^ a := Nat.two_pow_pos a
  have e32 : 4294967296 = 2 ^ a * 2 ^ (32 - a) := by
    rw [← Nat.pow_add, show a + (32 - a) = 32 by omega]
  have ye : 4294967296 - x = 2 ^ a * (2 ^ (32 - a) - x / 2 ^ a) + 0 := by
    rw [Nat.mul_sub, ← e32]
    omega
  have ev : 2 ^ (32 - a) % 2 = 0 := by
    rw [show 32 - a = (31 - a) + 1 by omega, Nat.pow_succ]
    omega
  have ml : x / 2 ^ a < 2 ^ (32 - a) := by
    rw [Nat.div_lt_iff_lt_mul p0, Nat.mul_comm, ← e32]
    exact hx2
  apply Nat.eq_of_testBit_eq
  intro i
  rw [Nat.testBit_and, Nat.testBit_two_pow, ye]
  rw [show x.testBit i = (2 ^ a * (x / 2 ^ a) + 0).testBit i from by rw [← xe], Nat.testBit_two_pow_mul_add _ p0, Nat.testBit_two_pow_mul_add _ p0]
  by_cases h1 : i < a
  · rw [if_pos h1, Nat.zero_testBit, decide_eq_false (by omega)]
    rfl
  · rw [if_neg h1, if_neg h1]
    by_cases h2 : i = a
    · subst h2
      rw [Nat.sub_self, Nat.testBit_zero, Nat.testBit_zero, hd, decide_eq_true rfl, show (2 ^ (32 - i) - x / 2 ^ i) % 2 = 1 by omega]
      simp
    · rw [decide_eq_false (show ¬ a = i by omega)]
      obtain ⟨k, hk⟩ : ∃ k, i - a = k + 1 := ⟨i - a - 1, by omega⟩
      rw [hk, Nat.testBit_succ, Nat.testBit_succ]
      have t : (2 ^ (32 - a) - x / 2 ^ a) / 2 = 2 ^ (31 - a) - 1 - (x / 2 ^ a) / 2 := by
        have : 2 ^ (32 - a) = 2 ^ (31 - a) * 2 := by rw [show 32 - a = (31 - a) + 1 by omega, Nat.pow_succ]
        omega
      rw [t]
      have ml2 : x / 2 ^ a / 2 < 2 ^ (31 - a) := by
        have : 2 ^ (32 - a) = 2 ^ (31 - a) * 2 := by rw [show 32 - a = (31 - a) + 1 by omega, Nat.pow_succ]
        omega
      rw [show 2 ^ (31 - a) - 1 - x / 2 ^ a / 2 = 2 ^ (31 - a) - (x / 2 ^ a / 2 + 1) by omega, Nat.testBit_two_pow_sub_succ ml2 k]
      cases (x / 2 ^ a / 2).testBit k <;> simp
theorem bc_o : ∀ a, a < 24 → f_J6_bitCount_0f7a4 h00 (nI (2 ^ a - 1)) = some (nI a) := by decide +kernel
theorem neg_n {x : Nat} (hx : x < 4294967296) : -(nI x) = nI (4294967296 - x) := by
  apply nn_inj
  rw [Int32.toBitVec_neg, nn_tb, nn_tb]
  apply BitVec.eq_of_toNat_eq
  rw [BitVec.toNat_neg, BitVec.toNat_ofNat, BitVec.toNat_ofNat]
  omega
def ffN (p : Nat → Bool) (n e : Nat) : Nat := match firstB p n with
  | some s => s
  | none => e
theorem x_first {h : aH} {x e : Nat} (hx : x < 16777216) : f_X0_firstOr h (nI x) (nI e) = some (nI (ffN (fun i => x.testBit i) 24 e)) := by
  by_cases h0 : x = 0
  · subst h0
    unfold ffN
    rw [firstB_n.mpr (fun i _ => Nat.zero_testBit i)]
    simp (disch := first | assumption | omega | decide | ((repeat first | apply lyI | apply lyJ | apply lywI | apply lywJ | apply csI | apply csJ | apply cswI | apply cswJ); assumption)) only [f_X0_firstOr, LI, ↓li_m1, nI_add, pk_mul, nn_sub, nn_m1, nn_div, nn_rem, nn_nz, nn_mod, nJ_l, lN_add, lN_mul, nn_tb1, nI_bt, nn_and, nn_or, nn_xor, nn_shr, nn_1shl, nn_31, il_p, il_n, it_p, it_n, ie_p, ie_n, ie_b, ie_b1, ie_m, ie_mm, it_m, it_m0, il_m0, bI_rZ, Option.bind_some, bd2_some, Nat.add_zero, Nat.zero_add, if_true, if_false, Bool.false_eq_true, eq_self, hI_R, hJ_R, ng_t, ng_e]
  · obtain ⟨b, b1, b2⟩ := tb_ex h0 (show x < 2 ^ 24 from hx)
    cases hf : firstB (fun i => x.testBit i) 24 with
    | none =>
      rw [firstB_n.mp hf b b1] at b2
      cases b2
    | some a =>
      obtain ⟨a1, a2, a3⟩ := firstB_s.mp hf
      have lb := low_bit a2 a3 (by omega)
      have p1 : 0 < 2 ^ a := Nat.two_pow_pos a
      have r : f_J6_bitCount_0f7a4 h (nI (2 ^ a - 1)) = some (nI a) := bc_o a a1
      have ng := neg_n (show x < 4294967296 by omega)
      unfold ffN
      rw [hf]
      simp (disch := first | assumption | omega | decide | ((repeat first | apply lyI | apply lyJ | apply lywI | apply lywJ | apply csI | apply csJ | apply cswI | apply cswJ); assumption)) only [f_X0_firstOr, LI, ↓li_m1, nI_add, pk_mul, nn_sub, nn_m1, nn_div, nn_rem, nn_nz, nn_mod, nJ_l, lN_add, lN_mul, nn_tb1, nI_bt, nn_and, nn_or, nn_xor, nn_shr, nn_1shl, nn_31, il_p, il_n, it_p, it_n, ie_p, ie_n, ie_b, ie_b1, ie_m, ie_mm, it_m, it_m0, il_m0, bI_rZ, Option.bind_some, bd2_some, Nat.add_zero, Nat.zero_add, if_true, if_false, Bool.false_eq_true, eq_self, hI_R, hJ_R, ng_t, ng_e, ng, lb, r]
theorem ff_ext {p q : Nat → Bool} {n m e : Nat} (hm : m ≤ n) (h1 : ∀ i, i < m → p i = q i) (h2 : ∀ i, m ≤ i → i < n → p i = false) : ffN p n e = ffN q m e := by
  unfold ffN
  cases hf : firstB q m with
  | none =>
    rw [firstB_n.mpr (fun i hi => by
      rcases Nat.lt_or_ge i m with u | u
      · rw [h1 i u]
        exact firstB_n.mp hf i u
      · exact h2 i u hi)]
  | some a =>
    obtain ⟨a1, a2, a3⟩ := firstB_s.mp hf
    have e : firstB p n = some a := firstB_s.mpr ⟨by omega, by rw [h1 a a1]; exact a2, fun i hi => by rw [h1 i (by omega)]; exact a3 i hi⟩
    rw [e]
