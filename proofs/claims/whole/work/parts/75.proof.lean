/-! ===== the least proof: the class ===== -/
def bcN (v : Nat) : Nat := cntB (fun i => v.testBit i) 12
theorem bc_c0 : ∀ a, a < 64 → ∀ b, b < 64 → f_J6_bitCount_0f7a4 h00 (nI (64 * a + b)) = some (nI (bcN (64 * a + b))) := by decide +kernel
theorem bc_c {h : aH} {v : Nat} (hv : v < 4096) : f_J6_bitCount_0f7a4 h (nI v) = some (nI (bcN v)) := by
  have := bc_c0 (v / 64) (by omega) (v % 64) (by omega)
  rw [show 64 * (v / 64) + v % 64 = v by omega] at this
  exact this
theorem bc_r0 : ∀ a, a < 64 → ∀ b, b < 64 → f_X12_bits h00 (nI (64 * a + b)) = some (nI (bcN (64 * a + b))) := by decide +kernel
theorem bc_r {h : aH} {v : Nat} (hv : v < 4096) : f_X12_bits h (nI v) = some (nI (bcN v)) := by
  have := bc_r0 (v / 64) (by omega) (v % 64) (by omega)
  rw [show 64 * (v / 64) + v % 64 = v by omega] at this
  exact this
/-- a world stands with the answers of a set -/
def svB (A : Nat → Nat) (S : Nat → Nat → Nat → Nat → Nat) (M : Nat → Nat → Nat) (n m w : Nat) : Bool := allB (fun v => fbN A S M m v w n != 0) (A 4)
/-- a world against what is sure -/
def agB (P : Nat → Bool) (Q : Nat → Bool) (how : Bool) (w : Nat) : Bool := P w && (Q w != how)
def prB (A : Nat → Nat) (P : Nat → Bool) (Q : Nat → Bool) (how : Bool) (S : Nat → Nat → Nat → Nat → Nat) (M : Nat → Nat → Nat) (n m : Nat) : Bool := !anyB (fun w => agB P Q how w && svB A S M n m w) (A 2)
def agK (S : Nat → Nat → Nat → Nat → Nat) (M : Nat → Nat → Nat) (k w u : Nat) : Nat := if u = M k 0 then kfN S (M k 0) (M k 1) w (M k 2) else 15
theorem agK_lt {S : Nat → Nat → Nat → Nat → Nat} {M : Nat → Nat → Nat} {k w : Nat} : ∀ u, u < 4 → agK S M k w u < 16 := fun u _ => by
  unfold agK
  split
  · exact kfN_lt _ _ _ _ _
  · decide
/-- what is gathered -/
def AG (h : aH) (A : Nat → Nat) (S : Nat → Nat → Nat → Nat → Nat) (M : Nat → Nat → Nat) (n : Nat) (p : Nat → Bool) : Prop := h.2.1 61 5 = nI (cntB p (A 2)) ∧ (∀ i k, i < cntB p (A 2) → k < n → h.2.1 65 (i * 12 + k) = nI (pk4 (agK S M k (alN p (A 2) i)))) ∧ ∃ ls, h.2.1 61 6 = nI ls ∧ (cntB p (A 2) = 0 ∨ ls < cntB p (A 2))
def stK (A : Nat → Nat) (S : Nat → Nat → Nat → Nat → Nat) (M : Nat → Nat → Nat) (m w u : Nat) : Nat → Nat
  | 0 => myN A u
  | k + 1 => if m.testBit k = true then stK A S M m w u k &&& agK S M k w u else stK A S M m w u k
theorem stK_lt {A : Nat → Nat} {S : Nat → Nat → Nat → Nat → Nat} {M : Nat → Nat → Nat} {m w u : Nat} : ∀ k, stK A S M m w u k < 16
  | 0 => myN_lt u
  | k + 1 => by
    have := stK_lt (A := A) (S := S) (M := M) (m := m) (w := w) (u := u) k
    unfold stK
    split
    · exact Nat.lt_of_le_of_lt Nat.and_le_left this
    · exact this
theorem stK_fb {A : Nat → Nat} {S : Nat → Nat → Nat → Nat → Nat} {M : Nat → Nat → Nat} {m w u : Nat} (hu : u < A 4) : ∀ k, stK A S M m w u k = fbN A S M m u w k
  | 0 => if_pos hu
  | k + 1 => by
    have ih := stK_fb (S := S) (M := M) (m := m) (w := w) hu k
    have lt := stK_lt (A := A) (S := S) (M := M) (m := m) (w := w) (u := u) k
    unfold stK fbN agK
    rw [← ih]
    by_cases hb : m.testBit k = true
    · by_cases hx : u = M k 0
      · rw [if_pos hb, if_pos hx, if_pos ⟨hb, hx.symm⟩, ← hx]
      · rw [if_pos hb, if_neg hx, if_neg (fun e => hx e.2.symm), and15, Nat.mod_eq_of_lt lt]
    · rw [if_neg hb, if_neg (fun e => hb e.1)]
theorem stK_15 {A : Nat → Nat} {S : Nat → Nat → Nat → Nat → Nat} {M : Nat → Nat → Nat} {m w u n : Nat} (hu : ¬ u < A 4) (hM : ∀ k, k < n → M k 0 < A 4) : ∀ k, k ≤ n → stK A S M m w u k = 15
  | 0, _ => if_neg hu
  | k + 1, hk => by
    have ih := stK_15 (S := S) (m := m) (w := w) hu hM k (by omega)
    have := hM k (by omega)
    unfold stK agK
    rw [ih, if_neg (show ¬ u = M k 0 by omega)]
    split <;> rfl
theorem stK_hi {A : Nat → Nat} {S : Nat → Nat → Nat → Nat → Nat} {M : Nat → Nat → Nat} {m w u i : Nat} (h : m >>> i = 0) : ∀ j, stK A S M m w u (i + j) = stK A S M m w u i
  | 0 => rfl
  | j + 1 => by
    have ih := stK_hi (A := A) (S := S) (M := M) (m := m) (w := w) (u := u) h j
    show (if m.testBit (i + j) = true then _ else _) = _
    have : m.testBit (i + j) = false := by
      rw [← Nat.testBit_shiftRight, h, Nat.zero_testBit]
    rw [this]
    exact ih
theorem k_stand {h : aH} {c : Nat} (hs : CS h c) {A : Nat → Nat} {P : Nat → Bool} {Q : Nat → Nat → Bool} {S : Nat → Nat → Nat → Nat → Nat} (hc : CC h c A P Q S) (hw : WF A) (hl : LAY h) (hf : h.2.2.2 52 4 = some c) {n d : Nat} {M : Nat → Nat → Nat} (hm : MN h 53 n d M) (mw : MW A n d M) (hr : HR h 52 A P S M n) {p : Nat → Bool} (ag : AG h A S M n p) {i m : Nat} (hi : i < cntB p (A 2)) (hm2 : m < 2 ^ n) : f_X9_standsAgainst h 61 (nI i) (nI m) = some (bI (svB A S M n m (alN p (A 2) i))) := by
  obtain ⟨b0, b1, b2l, b2, b3, b4⟩ := wf_b hw
  obtain ⟨mn, md, mk, mi⟩ := mw
  have hv : h.2.1 52 5 = nI (cntB (lvB A P S M n) (A 2)) := hr.1
  have cle := cntB_le (lvB A P S M n) (A 2)
  have hal : ∀ j, j < cntB (lvB A P S M n) (A 2) → h.2.1 59 j = nI (alN (lvB A P S M n) (A 2) j) ∧ alN (lvB A P S M n) (A 2) j < A 2 ∧ lvB A P S M n (alN (lvB A P S M n) (A 2) j) = true := fun j hj => hr_al hr hj
  have aln := al_N (lvB A P S M n) (A 2)
  have cle' := cntB_le p (A 2)
  have em := hc.1.2.2.2.2.2.2
  have p12 : 2 ^ n ≤ 2 ^ 12 := Nat.pow_le_pow_right (by decide) mn
  have e1 : ∃ e, f_X9_standsAgainst_l14 h 61 (nI i) (nI m) (nI (pk4 (myN A))) (nI 0) = some e ∧ e = nI (pk4 (fun u => stK A S M m (alN p (A 2) i) u n)) := by
    refine whl0 (fun j (s : Int32 × Int32) => s = (nI (pk4 (fun u => stK A S M m (alN p (A 2) i) u j)), nI j)) _ n (by omega) rfl ?_
    rintro j _ rfl hj
    have sl : m >>> j < 4096 := shr_lt (by omega)
    have lt := pk4_lt (g := fun u => stK A S M m (alN p (A 2) i) u j) (fun u _ => stK_lt j)
    by_cases hz : m >>> j = 0
    · refine Or.inr ⟨nI (pk4 (fun u => stK A S M m (alN p (A 2) i) u j)), by simp (disch := first | assumption | omega | decide | ((repeat first | apply lyI | apply lyJ | apply lywI | apply lywJ | apply csI | apply csJ | apply cswI | apply cswJ); assumption)) only [f_X9_standsAgainst_b14, f_X9_standsAgainst_j58, f_X9_standsAgainst_j52, SS, LI, ↓li_m1, nI_add, pk_mul, nn_sub, nn_m1, nn_div, nn_rem, nn_nz, nn_mod, nJ_l, lN_add, lN_mul, nn_tb1, nI_bt, nn_and, nn_or, nn_xor, nn_shr, nn_1shl, nn_31, il_p, il_n, it_p, it_n, ie_p, ie_n, ie_b, ie_b1, ie_m, ie_mm, it_m, it_m0, il_m0, bI_rZ, Option.bind_some, bd2_some, Nat.add_zero, Nat.zero_add, if_true, if_false, Bool.false_eq_true, eq_self, hI_R, hJ_R, hz], congrArg nI (pk4_congr (fun u _ => ?_))⟩
      have := stK_hi (A := A) (S := S) (M := M) (w := alN p (A 2) i) (u := u) hz (n - j)
      rw [show j + (n - j) = n by omega] at this
      exact this.symm
    · have hjn : j < n := by
        rcases Nat.lt_or_ge j n with u | u
        · exact u
        · exact absurd (by rw [Nat.shiftRight_eq_div_pow]; exact Nat.div_eq_of_lt (Nat.lt_of_lt_of_le hm2 (Nat.pow_le_pow_right (by decide) u))) hz
      refine Or.inl ⟨_, ?_, hjn, rfl⟩
      rcases (Bool.eq_false_or_eq_true (m.testBit j)).symm with hb | hb
      · simp (disch := first | assumption | omega | decide | ((repeat first | apply lyI | apply lyJ | apply lywI | apply lywJ | apply csI | apply csJ | apply cswI | apply cswJ); assumption)) only [f_X9_standsAgainst_b14, f_X9_standsAgainst_j58, f_X9_standsAgainst_j52, SS, LI, ↓li_m1, nI_add, pk_mul, nn_sub, nn_m1, nn_div, nn_rem, nn_nz, nn_mod, nJ_l, lN_add, lN_mul, nn_tb1, nI_bt, nn_and, nn_or, nn_xor, nn_shr, nn_1shl, nn_31, il_p, il_n, it_p, it_n, ie_p, ie_n, ie_b, ie_b1, ie_m, ie_mm, it_m, it_m0, il_m0, bI_rZ, Option.bind_some, bd2_some, Nat.add_zero, Nat.zero_add, if_true, if_false, Bool.false_eq_true, eq_self, hI_R, hJ_R, hb, bI_f]
        refine congrArg (fun x => some (Sum.inl (nI x, nI (j + 1)))) (pk4_congr (fun u _ => ?_))
        show _ = (if m.testBit j = true then _ else _)
        rw [hb]
        rfl
      · have ea := ag.2.1 i j hi hjn
        have e2 := pk4_and (f := fun u => stK A S M m (alN p (A 2) i) u j) (g := agK S M j (alN p (A 2) i)) (fun u _ => stK_lt j) agK_lt
        simp (disch := first | assumption | omega | decide | ((repeat first | apply lyI | apply lyJ | apply lywI | apply lywJ | apply csI | apply csJ | apply cswI | apply cswJ); assumption)) only [f_X9_standsAgainst_b14, f_X9_standsAgainst_j58, f_X9_standsAgainst_j52, SS, LI, ↓li_m1, nI_add, pk_mul, nn_sub, nn_m1, nn_div, nn_rem, nn_nz, nn_mod, nJ_l, lN_add, lN_mul, nn_tb1, nI_bt, nn_and, nn_or, nn_xor, nn_shr, nn_1shl, nn_31, il_p, il_n, it_p, it_n, ie_p, ie_n, ie_b, ie_b1, ie_m, ie_mm, it_m, it_m0, il_m0, bI_rZ, Option.bind_some, bd2_some, Nat.add_zero, Nat.zero_add, if_true, if_false, Bool.false_eq_true, eq_self, hI_R, hJ_R, hb, bI_t, ea, e2]
        refine congrArg (fun x => some (Sum.inl (nI x, nI (j + 1)))) (pk4_congr (fun u _ => ?_))
        show _ = (if m.testBit j = true then _ else _)
        rw [hb]
        rfl
  obtain ⟨_, e1, rfl⟩ := e1
  have g4 : ∀ u, u < 4 → stK A S M m (alN p (A 2) i) u n < 16 := fun u _ => stK_lt n
  have lt := pk4_lt g4
  have e0 : allB (fun u => stK A S M m (alN p (A 2) i) u n != 0) 4 = svB A S M n m (alN p (A 2) i) := by
    unfold svB
    rw [Bool.eq_iff_iff, allB_iff, allB_iff]
    constructor
    · intro hh v hv
      have := hh v (by omega)
      rw [stK_fb hv] at this
      exact this
    · intro hh u hu
      by_cases hx : u < A 4
      · rw [stK_fb hx]
        exact hh u hx
      · rw [stK_15 hx (fun k hk => (mk k hk).1) n (Nat.le_refl n)]
        rfl
  have e2 : f_X9_standsAgainst_l61 h (nI (pk4 (fun u => stK A S M m (alN p (A 2) i) u n))) (nI 0) = some (match firstB (fun u => stK A S M m (alN p (A 2) i) u n == 0) 4 with | some _ => .inl () | none => .inr ()) := by
    refine srch (fun j => nI j) (fun u => stK A S M m (alN p (A 2) i) u n == 0) 4 (fun _ => (Sum.inl () : Unit ⊕ Unit)) (Sum.inr ()) rfl (by decide) (fun j hj hx => ?_) (fun j hj hx => ?_) ?_
    · have e3 := pk4_at g4 hj
      have e4 := g4 j hj
      have : stK A S M m (alN p (A 2) i) j n ≠ 0 := by simpa using hx
      simp (disch := first | assumption | omega | decide | ((repeat first | apply lyI | apply lyJ | apply lywI | apply lywJ | apply csI | apply csJ | apply cswI | apply cswJ); assumption)) only [f_X9_standsAgainst_b61, f_X9_standsAgainst_j58, f_X9_standsAgainst_j52, LI, ↓li_m1, nI_add, pk_mul, nn_sub, nn_m1, nn_div, nn_rem, nn_nz, nn_mod, nJ_l, lN_add, lN_mul, nn_tb1, nI_bt, nn_and, nn_or, nn_xor, nn_shr, nn_1shl, nn_31, il_p, il_n, it_p, it_n, ie_p, ie_n, ie_b, ie_b1, ie_m, ie_mm, it_m, it_m0, il_m0, bI_rZ, Option.bind_some, bd2_some, Nat.add_zero, Nat.zero_add, if_true, if_false, Bool.false_eq_true, eq_self, hI_R, hJ_R, e3]
    · have e3 := pk4_at g4 hj
      have : stK A S M m (alN p (A 2) i) j n = 0 := by simpa using hx
      simp (disch := first | assumption | omega | decide | ((repeat first | apply lyI | apply lyJ | apply lywI | apply lywJ | apply csI | apply csJ | apply cswI | apply cswJ); assumption)) only [f_X9_standsAgainst_b61, f_X9_standsAgainst_j58, f_X9_standsAgainst_j52, LI, ↓li_m1, nI_add, pk_mul, nn_sub, nn_m1, nn_div, nn_rem, nn_nz, nn_mod, nJ_l, lN_add, lN_mul, nn_tb1, nI_bt, nn_and, nn_or, nn_xor, nn_shr, nn_1shl, nn_31, il_p, il_n, it_p, it_n, ie_p, ie_n, ie_b, ie_b1, ie_m, ie_mm, it_m, it_m0, il_m0, bI_rZ, Option.bind_some, bd2_some, Nat.add_zero, Nat.zero_add, if_true, if_false, Bool.false_eq_true, eq_self, hI_R, hJ_R, e3]
    · simp (disch := first | assumption | omega | decide | ((repeat first | apply lyI | apply lyJ | apply lywI | apply lywJ | apply csI | apply csJ | apply cswI | apply cswJ); assumption)) only [f_X9_standsAgainst_b61, f_X9_standsAgainst_j58, f_X9_standsAgainst_j52, LI, ↓li_m1, nI_add, pk_mul, nn_sub, nn_m1, nn_div, nn_rem, nn_nz, nn_mod, nJ_l, lN_add, lN_mul, nn_tb1, nI_bt, nn_and, nn_or, nn_xor, nn_shr, nn_1shl, nn_31, il_p, il_n, it_p, it_n, ie_p, ie_n, ie_b, ie_b1, ie_m, ie_mm, it_m, it_m0, il_m0, bI_rZ, Option.bind_some, bd2_some, Nat.add_zero, Nat.zero_add, if_true, if_false, Bool.false_eq_true, eq_self, hI_R, hJ_R]
  rw [← e0]
  cases hx : firstB (fun u => stK A S M m (alN p (A 2) i) u n == 0) 4 with
  | none =>
    rw [hx] at e2
    have : allB (fun u => stK A S M m (alN p (A 2) i) u n != 0) 4 = true := allB_iff.mpr (fun u hu => by
      have := firstB_n.mp hx u hu
      show (!(_ == 0)) = true
      rw [this]
      rfl)
    rw [this]
    simp (disch := first | assumption | omega | decide | ((repeat first | apply lyI | apply lyJ | apply lywI | apply lywJ | apply csI | apply csJ | apply cswI | apply cswJ); assumption)) only [f_X9_standsAgainst, f_X9_standsAgainst_j58, SS, SH52, SC, LI, ↓li_m1, nI_add, pk_mul, nn_sub, nn_m1, nn_div, nn_rem, nn_nz, nn_mod, nJ_l, lN_add, lN_mul, nn_tb1, nI_bt, nn_and, nn_or, nn_xor, nn_shr, nn_1shl, nn_31, il_p, il_n, it_p, it_n, ie_p, ie_n, ie_b, ie_b1, ie_m, ie_mm, it_m, it_m0, il_m0, bI_rZ, Option.bind_some, bd2_some, Nat.add_zero, Nat.zero_add, if_true, if_false, Bool.false_eq_true, eq_self, hI_R, hJ_R, hf, em, e1, e2]
    rfl
  | some x =>
    rw [hx] at e2
    have hb := firstB_s.mp hx
    have : allB (fun u => stK A S M m (alN p (A 2) i) u n != 0) 4 = false := by
      rw [← Bool.not_eq_true, allB_iff]
      intro hh
      have h1 := hh x hb.1
      have h2 := hb.2.1
      have h3 : (!(stK A S M m (alN p (A 2) i) x n == 0)) = true := h1
      rw [h2] at h3
      cases h3
    rw [this]
    simp (disch := first | assumption | omega | decide | ((repeat first | apply lyI | apply lyJ | apply lywI | apply lywJ | apply csI | apply csJ | apply cswI | apply cswJ); assumption)) only [f_X9_standsAgainst, f_X9_standsAgainst_j58, SS, SH52, SC, LI, ↓li_m1, nI_add, pk_mul, nn_sub, nn_m1, nn_div, nn_rem, nn_nz, nn_mod, nJ_l, lN_add, lN_mul, nn_tb1, nI_bt, nn_and, nn_or, nn_xor, nn_shr, nn_1shl, nn_31, il_p, il_n, it_p, it_n, ie_p, ie_n, ie_b, ie_b1, ie_m, ie_mm, it_m, it_m0, il_m0, bI_rZ, Option.bind_some, bd2_some, Nat.add_zero, Nat.zero_add, if_true, if_false, Bool.false_eq_true, eq_self, hI_R, hJ_R, hf, em, e1, e2]
    rfl
