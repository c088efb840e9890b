/-! ===== a world's answers ===== -/
/-- of the worlds known to be thinkable: the sayings that all hold -/
theorem kn_same {A : Nat → Nat} (hw : WF A) {P : Nat → Bool} {v w o : Nat} : knB A P v w o = sameB A P v (kiN A v w (A 0)) o := by
  unfold knB sameB
  refine congrArg (P o && ·) ?_
  rw [Bool.eq_iff_iff, beq_iff_eq, ki_iff hw]
  exact Iff.rfl
theorem any_2 {p : Nat → Bool} {n m : Nat} (hn : n ≤ m) (h : ∀ o, p o = true → o < n) : anyB p m = anyB p n := by
  rw [Bool.eq_iff_iff, anyB_iff, anyB_iff]
  constructor
  · rintro ⟨o, h1, h2⟩
    exact ⟨o, h o h2, h2⟩
  · rintro ⟨o, h1, h2⟩
    exact ⟨o, by omega, h2⟩
/-- the worlds that can be lie below, and a question's worlds can be -/
def WP (A : Nat → Nat) (P : Nat → Bool) (Q : Nat → Nat → Bool) : Prop := A 2 = stM A (A 0) (A 0) ∧ (∀ w, P w = true → w < A 2) ∧ ∀ q w, q < A 3 → Q q w = true → P w = true
def sgN (A : Nat → Nat) (P : Nat → Bool) (Q : Nat → Nat → Bool) (v i : Nat) : Nat := syN (haN A P Q v i (A 2)) (hsN A P Q v i (A 2) ^^^ F32) 12 &&& (2 ^ (2 * A 3) - 1)
theorem sg_lt {A : Nat → Nat} {P : Nat → Bool} {Q : Nat → Nat → Bool} {v i : Nat} : sgN A P Q v i < 16777216 := Nat.lt_of_le_of_lt Nat.and_le_left sy_lt
theorem sg_hi {A : Nat → Nat} {P : Nat → Bool} {Q : Nat → Nat → Bool} {v i s : Nat} (hs : 2 * A 3 ≤ s) : (sgN A P Q v i).testBit s = false := by
  unfold sgN
  rw [Nat.testBit_and, Nat.testBit_two_pow_sub_one, decide_eq_false (by omega), Bool.and_false]
theorem sg_bit {A : Nat → Nat} (hw : WF A) {P : Nat → Bool} {Q : Nat → Nat → Bool} (wp : WP A P Q) {v w s : Nat} (hs : s < 2 * A 3) : (sgN A P Q v (kiN A v w (A 0))).testBit s = mtB A P Q v w s := by
  obtain ⟨b0, b1, b2l, b2, b3, b4⟩ := wf_b hw
  unfold sgN mtB
  rw [Nat.testBit_and, Nat.testBit_two_pow_sub_one, decide_eq_true hs, Bool.and_true, sy_bit (show s < 2 * 12 by omega), xF (by omega), ha_bit (show s / 2 < A 3 by omega) b3, hs_bit (show s / 2 < A 3 by omega)]
  have sP : ∀ o, sameB A P v (kiN A v w (A 0)) o = true → P o = true := fun o h => by
    unfold sameB at h
    rw [Bool.and_eq_true] at h
    exact h.1
  rw [any_2 (n := A 2) b2 (fun o h => by
    rw [Bool.and_eq_true, kn_same hw] at h
    exact wp.2.1 o (sP o h.1))]
  by_cases h2 : s % 2 = 0
  · rw [if_pos h2, ← all_any]
    refine allB_congr (fun o _ => ?_)
    rw [kn_same hw]
    unfold mnB
    rw [if_pos h2]
    cases sameB A P v (kiN A v w (A 0)) o <;> cases Q (s / 2) o <;> rfl
  · rw [if_neg h2]
    refine congrArg (!·) (anyB_congr (fun o _ => ?_))
    rw [kn_same hw]
    unfold mnB
    rw [if_neg h2]
    cases hs : sameB A P v (kiN A v w (A 0)) o
    · rfl
    · rw [sP o hs]
      cases Q (s / 2) o <;> rfl
theorem or_if {p : Nat → Bool} {f : Nat → Nat} {n s : Nat} : (orN (fun w => if p w = true then f w else 0) n).testBit s = anyB (fun w => p w && (f w).testBit s) n := by
  rw [orN_bit]
  refine anyB_congr (fun w _ => ?_)
  cases p w <;> simp
theorem mn_P {P : Nat → Bool} {Q : Nat → Nat → Bool} {A : Nat → Nat} (wp : WP A P Q) {s o : Nat} (hs : s < 2 * A 3) (h : mnB P Q s o = true) : P o = true := by
  unfold mnB at h
  split at h
  · exact wp.2.2 _ _ (by omega) h
  · rw [Bool.and_eq_true] at h
    exact h.1
theorem me_bit {A : Nat → Nat} (hw : WF A) {P : Nat → Bool} {Q : Nat → Nat → Bool} (wp : WP A P Q) {q s : Nat} (hs : s < 2 * A 3) (hq : q < A 3) : (meN A P Q q (A 2)).testBit s = l1B P Q q s ∧ (leN A P Q q (A 2)).testBit s = l2B P Q q s ∧ (neN A P Q (A 2)).testBit s = l4B P Q s := by
  obtain ⟨b0, b1, b2l, b2, b3, b4⟩ := wf_b hw
  unfold meN leN neN l1B l2B l4B
  rw [or_if, or_if, or_if, any_2 (n := A 2) b2 (fun o h => by rw [Bool.and_eq_true] at h; exact wp.2.1 o (mn_P wp hs h.1)), any_2 (n := A 2) b2 (fun o h => by rw [Bool.and_eq_true] at h; exact wp.2.1 o (mn_P wp hs h.1)), any_2 (n := A 2) b2 (fun o h => by rw [Bool.and_eq_true] at h; exact wp.2.1 o h.1)]
  refine ⟨anyB_congr (fun o _ => ?_), anyB_congr (fun o _ => ?_), anyB_congr (fun o _ => ?_)⟩
  · cases hp : P o
    · cases hm : mnB P Q s o
      · rfl
      · rw [mn_P wp hs hm] at hp
        cases hp
    · rw [sw_bit b3 hs hp]
      cases mnB P Q s o <;> cases Q q o <;> rfl
  · cases hp : P o
    · cases hm : mnB P Q s o
      · rfl
      · rw [mn_P wp hs hm] at hp
        cases hp
    · rw [sw_bit b3 hs hp]
      cases mnB P Q s o <;> cases Q q o <;> rfl
  · cases hp : P o
    · rfl
    · rw [xF (by omega), sw_bit b3 hs hp]
theorem wi_ha {A : Nat → Nat} (hw : WF A) {P : Nat → Bool} {Q : Nat → Nat → Bool} (wp : WP A P Q) {v w q : Nat} (hq : q < A 3) : (haN A P Q v (kiN A v w (A 0)) (A 2)).testBit q = wiB A P Q v w q ∧ (hsN A P Q v (kiN A v w (A 0)) (A 2)).testBit q = !woB A P Q v w q := by
  obtain ⟨b0, b1, b2l, b2, b3, b4⟩ := wf_b hw
  have sP : ∀ o, knB A P v w o = true → P o = true := fun o h => by
    unfold knB at h
    rw [Bool.and_eq_true] at h
    exact h.1
  unfold wiB woB
  rw [ha_bit hq b3, hs_bit hq, any_2 (n := A 2) b2 (fun o h => by rw [Bool.and_eq_true] at h; exact wp.2.1 o (sP o h.1)), any_2 (n := A 2) b2 (fun o h => by rw [Bool.and_eq_true] at h; exact wp.2.1 o (sP o h.1)), Bool.not_not, ← all_any]
  refine ⟨allB_congr (fun o _ => ?_), anyB_congr (fun o _ => ?_)⟩
  · rw [kn_same hw]
    cases sameB A P v (kiN A v w (A 0)) o <;> cases Q q o <;> rfl
  · rw [kn_same hw]
