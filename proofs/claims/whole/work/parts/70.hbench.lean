/-! ===== the hearing: benches, what an answer takes away ===== -/
theorem fc_bit0 {S : Nat → Nat → Nat → Nat → Nat} {M : Nat → Nat → Nat} {w u : Nat} : ∀ {n}, (fcN S M w u n).testBit 0 = allB (fun k => !(M k 0 == u) || S u (M k 1) w 0 == M k 2) n
  | 0 => by
    show (15 : Nat).testBit 0 = true
    decide
  | n + 1 => by
    show (if M n 0 = u then fcN S M w u n &&& kfN S u (M n 1) w (M n 2) else fcN S M w u n).testBit 0 = (allB _ n && (!(M n 0 == u) || S u (M n 1) w 0 == M n 2))
    by_cases hx : M n 0 = u
    · rw [if_pos hx, Nat.testBit_and, fc_bit0, kf_bit (by decide)]
      simp [hx]
    · rw [if_neg hx, fc_bit0]
      simp [hx]
theorem pk4_1111 {g : Nat → Nat} (hg : ∀ u, u < 4 → g u < 16) : (pk4 g &&& 4369 = 4369) ↔ ∀ u, u < 4 → (g u).testBit 0 = true := by
  have e : (4369 : Nat) = pk4 (fun _ => 1) := by decide
  have t : ∀ x, x < 16 → (x &&& 1 = 1 ↔ x.testBit 0 = true) := by decide +kernel
  have l1 : ∀ x : Nat, x &&& 1 < 16 := fun x => Nat.lt_of_le_of_lt Nat.and_le_right (by decide)
  rw [e, pk4_and hg (fun _ _ => by decide)]
  constructor
  · intro h u hu
    have h' : (pk4 (fun u => g u &&& 1) >>> (u * 4)) &&& 15 = (pk4 (fun _ => 1) >>> (u * 4)) &&& 15 := congrArg (fun x => (x >>> (u * 4)) &&& 15) h
    rw [pk4_at (fun v _ => l1 (g v)) hu, pk4_at (fun v _ => by decide) hu] at h'
    exact (t _ (hg u hu)).mp h'
  · intro h
    have e4 : ∀ u, u < 4 → g u &&& 1 = 1 := fun u hu => (t _ (hg u hu)).mpr (h u hu)
    show 16 * (16 * (16 * (g 3 &&& 1) + (g 2 &&& 1)) + (g 1 &&& 1)) + (g 0 &&& 1) = 16 * (16 * (16 * 1 + 1) + 1) + 1
    rw [e4 0 (by decide), e4 1 (by decide), e4 2 (by decide), e4 3 (by decide)]
theorem hon_all {S : Nat → Nat → Nat → Nat → Nat} {M : Nat → Nat → Nat} {w n : Nat} (hM : ∀ k, k < n → M k 0 < 4) : (∀ u, u < 4 → (fcN S M w u n).testBit 0 = true) ↔ allB (hoB S M w) n = true := by
  rw [allB_iff]
  constructor
  · intro h k hk
    have := h (M k 0) (hM k hk)
    rw [fc_bit0, allB_iff] at this
    have := this k hk
    simpa [hoB] using this
  · intro h u _
    rw [fc_bit0, allB_iff]
    intro k hk
    have := h k hk
    by_cases hx : M k 0 = u
    · subst hx
      simpa [hoB] using this
    · simp [hx]
theorem k_hon52 {h : aH} {c : Nat} (hs : CS h c) {A : Nat → Nat} {P : Nat → Bool} {Q : Nat → Nat → Bool} {S : Nat → Nat → Nat → Nat → Nat} (hc : CC h c A P Q S) (hw : WF A) (hl : LAY h) (hf : h.2.2.2 52 4 = some c) {n d : Nat} {M : Nat → Nat → Nat} (hm : MN h 53 n d M) (mw : MW A n d M) (hr : HR h 52 A P S M n) : f_X3_leftIfHonest h 52 = some (nI (cntB (bnB P S M n) (A 2))) := by
  obtain ⟨b0, b1, b2l, b2, b3, b4⟩ := wf_b hw
  obtain ⟨mn, md, mk, mi⟩ := mw
  have hv : h.2.1 52 5 = nI (cntB (lvB A P S M n) (A 2)) := hr.1
  have cle := cntB_le (lvB A P S M n) (A 2)
  have hal : ∀ j, j < cntB (lvB A P S M n) (A 2) → h.2.1 59 j = nI (alN (lvB A P S M n) (A 2) j) ∧ alN (lvB A P S M n) (A 2) j < A 2 ∧ lvB A P S M n (alN (lvB A P S M n) (A 2) j) = true := fun j hj => hr_al hr hj
  have aln := al_N (lvB A P S M n) (A 2)
  have ew := hc.1.2.2.1
  have e1 : f_X3_leftIfHonest_l4 h 52 (nI 0) (nI 0) = some (nI (cntB (bnB P S M n) (A 2))) := by
    refine for0 (body := fun zz : Int32 × Int32 => f_X3_leftIfHonest_b4 h 52 zz.1 zz.2) (fun j => (nI (cntB (bnB P S M n) j), nI j)) (A 2) (e := nI (cntB (bnB P S M n) (A 2))) (rfl) (by omega) (fun j hj => ?_) ?_
    · have r := c_canBe hs hc hw hj
      cases hp : P j
      · rw [hp] at r
        simp (disch := first | assumption | omega | decide | ((repeat first | apply lyI | apply lyJ | apply lywI | apply lywJ | apply csI | apply csJ | apply cswI | apply cswJ); assumption)) only [f_X3_leftIfHonest_b4, f_X3_leftIfHonest_j45, SH52, SC, LI, ↓li_m1, nI_add, pk_mul, nn_sub, nn_m1, nn_div, nn_rem, nn_nz, nn_mod, nJ_l, lN_add, lN_mul, nn_tb1, nI_bt, nn_and, nn_or, nn_xor, nn_shr, nn_1shl, nn_31, il_p, il_n, it_p, it_n, ie_p, ie_n, ie_b, ie_b1, ie_m, ie_mm, it_m, it_m0, il_m0, bI_rZ, Option.bind_some, bd2_some, Nat.add_zero, Nat.zero_add, if_true, if_false, Bool.false_eq_true, eq_self, hI_R, hJ_R, hf, ew, r, bI_f]
        rw [cntB_f (by show (P j && _) = false; rw [hp]; rfl)]
      · rw [hp] at r
        have e : h.2.1 58 j = nI (pk4 (fun u => fcN S M j u n)) := hr.2.2.1 j hj hp
        have f4 : ∀ u, u < 4 → fcN S M j u n < 16 := fun u _ => fcN_lt S M j u n
        have l1 := pk4_lt f4
        have l2 : pk4 (fun u => fcN S M j u n) &&& 4369 < 65536 := Nat.lt_of_le_of_lt Nat.and_le_left l1
        have e5 := (pk4_1111 f4).trans (hon_all (fun k hk => by have := mk k hk; omega))
        by_cases hx : pk4 (fun u => fcN S M j u n) &&& 4369 = 4369
        · simp (disch := first | assumption | omega | decide | ((repeat first | apply lyI | apply lyJ | apply lywI | apply lywJ | apply csI | apply csJ | apply cswI | apply cswJ); assumption)) only [f_X3_leftIfHonest_b4, f_X3_leftIfHonest_j45, SH52, SC, LI, ↓li_m1, nI_add, pk_mul, nn_sub, nn_m1, nn_div, nn_rem, nn_nz, nn_mod, nJ_l, lN_add, lN_mul, nn_tb1, nI_bt, nn_and, nn_or, nn_xor, nn_shr, nn_1shl, nn_31, il_p, il_n, it_p, it_n, ie_p, ie_n, ie_b, ie_b1, ie_m, ie_mm, it_m, it_m0, il_m0, bI_rZ, Option.bind_some, bd2_some, Nat.add_zero, Nat.zero_add, if_true, if_false, Bool.false_eq_true, eq_self, hI_R, hJ_R, hf, ew, r, bI_t, e]
          rw [cntB_t (by show (P j && _) = true; rw [hp]; exact e5.mp hx)]
        · simp (disch := first | assumption | omega | decide | ((repeat first | apply lyI | apply lyJ | apply lywI | apply lywJ | apply csI | apply csJ | apply cswI | apply cswJ); assumption)) only [f_X3_leftIfHonest_b4, f_X3_leftIfHonest_j45, SH52, SC, LI, ↓li_m1, nI_add, pk_mul, nn_sub, nn_m1, nn_div, nn_rem, nn_nz, nn_mod, nJ_l, lN_add, lN_mul, nn_tb1, nI_bt, nn_and, nn_or, nn_xor, nn_shr, nn_1shl, nn_31, il_p, il_n, it_p, it_n, ie_p, ie_n, ie_b, ie_b1, ie_m, ie_mm, it_m, it_m0, il_m0, bI_rZ, Option.bind_some, bd2_some, Nat.add_zero, Nat.zero_add, if_true, if_false, Bool.false_eq_true, eq_self, hI_R, hJ_R, hf, ew, r, bI_t, e]
          rw [cntB_f (by
            show (P j && _) = false
            rw [hp, Bool.true_and, ← Bool.not_eq_true]
            exact fun e => hx (e5.mpr e))]
    · simp (disch := first | assumption | omega | decide | ((repeat first | apply lyI | apply lyJ | apply lywI | apply lywJ | apply csI | apply csJ | apply cswI | apply cswJ); assumption)) only [f_X3_leftIfHonest_b4, f_X3_leftIfHonest_j45, SH52, SC, LI, ↓li_m1, nI_add, pk_mul, nn_sub, nn_m1, nn_div, nn_rem, nn_nz, nn_mod, nJ_l, lN_add, lN_mul, nn_tb1, nI_bt, nn_and, nn_or, nn_xor, nn_shr, nn_1shl, nn_31, il_p, il_n, it_p, it_n, ie_p, ie_n, ie_b, ie_b1, ie_m, ie_mm, it_m, it_m0, il_m0, bI_rZ, Option.bind_some, bd2_some, Nat.add_zero, Nat.zero_add, if_true, if_false, Bool.false_eq_true, eq_self, hI_R, hJ_R, hf, ew]
  simp (disch := first | assumption | omega | decide | ((repeat first | apply lyI | apply lyJ | apply lywI | apply lywJ | apply csI | apply csJ | apply cswI | apply cswJ); assumption)) only [f_X3_leftIfHonest, SH52, LI, ↓li_m1, nI_add, pk_mul, nn_sub, nn_m1, nn_div, nn_rem, nn_nz, nn_mod, nJ_l, lN_add, lN_mul, nn_tb1, nI_bt, nn_and, nn_or, nn_xor, nn_shr, nn_1shl, nn_31, il_p, il_n, it_p, it_n, ie_p, ie_n, ie_b, ie_b1, ie_m, ie_mm, it_m, it_m0, il_m0, bI_rZ, Option.bind_some, bd2_some, Nat.add_zero, Nat.zero_add, if_true, if_false, Bool.false_eq_true, eq_self, hI_R, hJ_R, e1]
/-- the first answer that is not honest in a world -/
def dbI : Option Nat → Int32
  | none => m1
  | some k => nI k
theorem k_doubt52 {h : aH} {c : Nat} (hs : CS h c) {A : Nat → Nat} {P : Nat → Bool} {Q : Nat → Nat → Bool} {S : Nat → Nat → Nat → Nat → Nat} (hc : CC h c A P Q S) (hw : WF A) (hl : LAY h) (hf : h.2.2.2 52 4 = some c) {n d : Nat} {M : Nat → Nat → Nat} (hm : MN h 53 n d M) (mw : MW A n d M) (hr : HR h 52 A P S M n) {w : Nat} (h1 : w < A 2) (hp : P w = true) : f_X3_firstDoubt h 52 (nI w) = some (dbI (firstB (fun k => !hoB S M w k) n)) := by
  obtain ⟨b0, b1, b2l, b2, b3, b4⟩ := wf_b hw
  obtain ⟨mn, md, mk, mi⟩ := mw
  have hv : h.2.1 52 5 = nI (cntB (lvB A P S M n) (A 2)) := hr.1
  have cle := cntB_le (lvB A P S M n) (A 2)
  have hal : ∀ j, j < cntB (lvB A P S M n) (A 2) → h.2.1 59 j = nI (alN (lvB A P S M n) (A 2) j) ∧ alN (lvB A P S M n) (A 2) j < A 2 ∧ lvB A P S M n (alN (lvB A P S M n) (A 2) j) = true := fun j hj => hr_al hr hj
  have aln := al_N (lvB A P S M n) (A 2)
  have m4 : h.2.1 53 4 = nI n := hm.1
  have bd : ∀ j, j < n → f_X3_firstDoubt_b2 h 52 (nI w) (nI j) = if hoB S M w j = true then some (.inl (nI (j + 1))) else some (.inr (.inl (nI j))) := fun j hj => by
    have mj := mk j hj
    have r := k_agree52 hs hc hw hl hf hm hj ⟨mj.1, mj.2.1, mj.2.2.1⟩ mn h1 hp
    have f4 : ∀ u, u < 4 → (fun u => if u = M j 0 then kfN S (M j 0) (M j 1) w (M j 2) else 15) u < 16 := fun u _ => by
      show (if u = M j 0 then _ else _) < 16
      split
      · exact kfN_lt _ _ _ _ _
      · decide
    have l1 := pk4_lt f4
    have l2 : pk4 (fun u => if u = M j 0 then kfN S (M j 0) (M j 1) w (M j 2) else 15) &&& 4369 < 65536 := Nat.lt_of_le_of_lt Nat.and_le_left l1
    have e5 : (∀ u, u < 4 → ((fun u => if u = M j 0 then kfN S (M j 0) (M j 1) w (M j 2) else 15) u).testBit 0 = true) ↔ hoB S M w j = true := by
      constructor
      · intro h
        have := h (M j 0) (by omega)
        simp only [if_true] at this
        rw [kf_bit (by decide)] at this
        exact this
      · intro h u _
        show (if u = M j 0 then kfN S (M j 0) (M j 1) w (M j 2) else 15).testBit 0 = true
        split
        · rw [kf_bit (by decide)]
          exact h
        · decide
    have e6 := (pk4_1111 f4).trans e5
    by_cases hx : pk4 (fun u => if u = M j 0 then kfN S (M j 0) (M j 1) w (M j 2) else 15) &&& 4369 = 4369
    · rw [if_pos (e6.mp hx)]
      simp (disch := first | assumption | omega | decide | ((repeat first | apply lyI | apply lyJ | apply lywI | apply lywJ | apply csI | apply csJ | apply cswI | apply cswJ); assumption)) only [f_X3_firstDoubt_b2, SH52, LI, ↓li_m1, nI_add, pk_mul, nn_sub, nn_m1, nn_div, nn_rem, nn_nz, nn_mod, nJ_l, lN_add, lN_mul, nn_tb1, nI_bt, nn_and, nn_or, nn_xor, nn_shr, nn_1shl, nn_31, il_p, il_n, it_p, it_n, ie_p, ie_n, ie_b, ie_b1, ie_m, ie_mm, it_m, it_m0, il_m0, bI_rZ, Option.bind_some, bd2_some, Nat.add_zero, Nat.zero_add, if_true, if_false, Bool.false_eq_true, eq_self, hI_R, hJ_R, m4, r]
    · rw [if_neg (fun e => hx (e6.mpr e))]
      simp (disch := first | assumption | omega | decide | ((repeat first | apply lyI | apply lyJ | apply lywI | apply lywJ | apply csI | apply csJ | apply cswI | apply cswJ); assumption)) only [f_X3_firstDoubt_b2, SH52, LI, ↓li_m1, nI_add, pk_mul, nn_sub, nn_m1, nn_div, nn_rem, nn_nz, nn_mod, nJ_l, lN_add, lN_mul, nn_tb1, nI_bt, nn_and, nn_or, nn_xor, nn_shr, nn_1shl, nn_31, il_p, il_n, it_p, it_n, ie_p, ie_n, ie_b, ie_b1, ie_m, ie_mm, it_m, it_m0, il_m0, bI_rZ, Option.bind_some, bd2_some, Nat.add_zero, Nat.zero_add, if_true, if_false, Bool.false_eq_true, eq_self, hI_R, hJ_R, m4, r]
  have e1 : f_X3_firstDoubt_l2 h 52 (nI w) (nI 0) = some (match firstB (fun k => !hoB S M w k) n with | some k => .inl (nI k) | none => .inr ()) := by
    refine srch (fun j => nI j) (fun k => !hoB S M w k) n (fun k => (Sum.inl (nI k) : Int32 ⊕ Unit)) (Sum.inr ()) rfl (by omega) (fun j hj hx => ?_) (fun j hj hx => ?_) ?_
    · rw [bd j hj, if_pos (by simpa using hx)]
    · rw [bd j hj, if_neg (by simpa using hx)]
    · simp (disch := first | assumption | omega | decide | ((repeat first | apply lyI | apply lyJ | apply lywI | apply lywJ | apply csI | apply csJ | apply cswI | apply cswJ); assumption)) only [f_X3_firstDoubt_b2, SH52, LI, ↓li_m1, nI_add, pk_mul, nn_sub, nn_m1, nn_div, nn_rem, nn_nz, nn_mod, nJ_l, lN_add, lN_mul, nn_tb1, nI_bt, nn_and, nn_or, nn_xor, nn_shr, nn_1shl, nn_31, il_p, il_n, it_p, it_n, ie_p, ie_n, ie_b, ie_b1, ie_m, ie_mm, it_m, it_m0, il_m0, bI_rZ, Option.bind_some, bd2_some, Nat.add_zero, Nat.zero_add, if_true, if_false, Bool.false_eq_true, eq_self, hI_R, hJ_R, m4]
  cases hx : firstB (fun k => !hoB S M w k) n with
  | none =>
    rw [hx] at e1
    simp (disch := first | assumption | omega | decide | ((repeat first | apply lyI | apply lyJ | apply lywI | apply lywJ | apply csI | apply csJ | apply cswI | apply cswJ); assumption)) only [f_X3_firstDoubt, SH52, LI, ↓li_m1, nI_add, pk_mul, nn_sub, nn_m1, nn_div, nn_rem, nn_nz, nn_mod, nJ_l, lN_add, lN_mul, nn_tb1, nI_bt, nn_and, nn_or, nn_xor, nn_shr, nn_1shl, nn_31, il_p, il_n, it_p, it_n, ie_p, ie_n, ie_b, ie_b1, ie_m, ie_mm, it_m, it_m0, il_m0, bI_rZ, Option.bind_some, bd2_some, Nat.add_zero, Nat.zero_add, if_true, if_false, Bool.false_eq_true, eq_self, hI_R, hJ_R, e1]
    rfl
  | some x =>
    rw [hx] at e1
    simp (disch := first | assumption | omega | decide | ((repeat first | apply lyI | apply lyJ | apply lywI | apply lywJ | apply csI | apply csJ | apply cswI | apply cswJ); assumption)) only [f_X3_firstDoubt, SH52, LI, ↓li_m1, nI_add, pk_mul, nn_sub, nn_m1, nn_div, nn_rem, nn_nz, nn_mod, nJ_l, lN_add, lN_mul, nn_tb1, nI_bt, nn_and, nn_or, nn_xor, nn_shr, nn_1shl, nn_31, il_p, il_n, it_p, it_n, ie_p, ie_n, ie_b, ie_b1, ie_m, ie_mm, it_m, it_m0, il_m0, bI_rZ, Option.bind_some, bd2_some, Nat.add_zero, Nat.zero_add, if_true, if_false, Bool.false_eq_true, eq_self, hI_R, hJ_R, e1]
    rfl
/-- the clash: the first k with which no world is left on the honest bench -/
def clO (A : Nat → Nat) (P : Nat → Bool) (S : Nat → Nat → Nat → Nat → Nat) (M : Nat → Nat → Nat) (n : Nat) : Option Nat := firstB (fun k => cntB (bnB P S M (k + 1)) (A 2) == 0) n
theorem fd_lt {p : Nat → Bool} {n k i : Nat} (h : firstB p n = some k) (hi : i ≤ k) : allB (fun j => !p j) i = true := by
  obtain ⟨h1, h2, h3⟩ := firstB_s.mp h
  rw [allB_iff]
  intro j hj
  rw [h3 j (by omega)]
  rfl
/-- a world is off the bench of the first k + 1 answers if its first doubt is k at most -/
theorem bn_db {P : Nat → Bool} {S : Nat → Nat → Nat → Nat → Nat} {M : Nat → Nat → Nat} {n k x w : Nat} (hp : P w = true) (hd : firstB (fun k => !hoB S M w k) n = some x) : bnB P S M (k + 1) w = false ↔ x ≤ k := by
  obtain ⟨h1, h2, h3⟩ := firstB_s.mp hd
  unfold bnB
  rw [hp, Bool.true_and]
  constructor
  · intro h
    rcases Nat.lt_or_ge k x with q | q
    · rw [allB_iff.mpr (fun j hj => by have := h3 j (by omega); simpa using this)] at h
      cases h
    · exact q
  · intro h
    rw [← Bool.not_eq_true, allB_iff]
    intro e
    have := e x (by omega)
    rw [this] at h2
    cases h2
theorem k_clash52 {h : aH} {c : Nat} (hs : CS h c) {A : Nat → Nat} {P : Nat → Bool} {Q : Nat → Nat → Bool} {S : Nat → Nat → Nat → Nat → Nat} (hc : CC h c A P Q S) (hw : WF A) (hl : LAY h) (hf : h.2.2.2 52 4 = some c) {n d : Nat} {M : Nat → Nat → Nat} (hm : MN h 53 n d M) (mw : MW A n d M) (hr : HR h 52 A P S M n) : f_X3_firstClash h 52 = some (dbI (clO A P S M n)) := by
  obtain ⟨b0, b1, b2l, b2, b3, b4⟩ := wf_b hw
  obtain ⟨mn, md, mk, mi⟩ := mw
  have hv : h.2.1 52 5 = nI (cntB (lvB A P S M n) (A 2)) := hr.1
  have cle := cntB_le (lvB A P S M n) (A 2)
  have hal : ∀ j, j < cntB (lvB A P S M n) (A 2) → h.2.1 59 j = nI (alN (lvB A P S M n) (A 2) j) ∧ alN (lvB A P S M n) (A 2) j < A 2 ∧ lvB A P S M n (alN (lvB A P S M n) (A 2) j) = true := fun j hj => hr_al hr hj
  have aln := al_N (lvB A P S M n) (A 2)
  have m4 : h.2.1 53 4 = nI n := hm.1
  have ew := hc.1.2.2.1
  by_cases hn : n = 0
  · subst hn
    simp (disch := first | assumption | omega | decide | ((repeat first | apply lyI | apply lyJ | apply lywI | apply lywJ | apply csI | apply csJ | apply cswI | apply cswJ); assumption)) only [f_X3_firstClash, SH52, LI, ↓li_m1, nI_add, pk_mul, nn_sub, nn_m1, nn_div, nn_rem, nn_nz, nn_mod, nJ_l, lN_add, lN_mul, nn_tb1, nI_bt, nn_and, nn_or, nn_xor, nn_shr, nn_1shl, nn_31, il_p, il_n, it_p, it_n, ie_p, ie_n, ie_b, ie_b1, ie_m, ie_mm, it_m, it_m0, il_m0, bI_rZ, Option.bind_some, bd2_some, Nat.add_zero, Nat.zero_add, if_true, if_false, Bool.false_eq_true, eq_self, hI_R, hJ_R, m4]
    rfl
  let D : Nat → Option Nat := fun w => firstB (fun k => !hoB S M w k) n
  have e : ∃ e, f_X3_firstClash_l16 h 52 (nI 0) (nI 0) = some e ∧ ((e = .inl () ∧ ∃ w, w < A 2 ∧ P w = true ∧ D w = none) ∨ ∃ m, e = .inr (nI m) ∧ m < n ∧ (∀ w, w < A 2 → P w = true → ∃ x, D w = some x ∧ x ≤ m) ∧ (m = 0 ∨ ∃ w, w < A 2 ∧ P w = true ∧ D w = some m)) := by
    refine whl0 (fun i (s : Int32 × Int32) => ∃ m, s = (nI m, nI i) ∧ m < n ∧ (∀ w, w < i → P w = true → ∃ x, D w = some x ∧ x ≤ m) ∧ (m = 0 ∨ ∃ w, w < i ∧ P w = true ∧ D w = some m)) _ (A 2) (by omega) ⟨0, rfl, by omega, fun w hw => absurd hw (by omega), Or.inl rfl⟩ ?_
    rintro i _ ⟨m, rfl, hm1, hm2, hm3⟩ hi
    rcases Nat.lt_or_ge i (A 2) with qi | qi
    · have r := c_canBe hs hc hw qi
      rcases (Bool.eq_false_or_eq_true (P i)).symm with hp | hp
      · rw [hp] at r
        refine Or.inl ⟨(nI m, nI (i + 1)), by simp (disch := first | assumption | omega | decide | ((repeat first | apply lyI | apply lyJ | apply lywI | apply lywJ | apply csI | apply csJ | apply cswI | apply cswJ); assumption)) only [f_X3_firstClash_b16, f_X3_firstClash_j57, SH52, SC, LI, ↓li_m1, nI_add, pk_mul, nn_sub, nn_m1, nn_div, nn_rem, nn_nz, nn_mod, nJ_l, lN_add, lN_mul, nn_tb1, nI_bt, nn_and, nn_or, nn_xor, nn_shr, nn_1shl, nn_31, il_p, il_n, it_p, it_n, ie_p, ie_n, ie_b, ie_b1, ie_m, ie_mm, it_m, it_m0, il_m0, bI_rZ, Option.bind_some, bd2_some, Nat.add_zero, Nat.zero_add, if_true, if_false, Bool.false_eq_true, eq_self, hI_R, hJ_R, hf, ew, r, bI_f], qi, m, rfl, hm1, fun w hw hpw => ?_, hm3.imp id (fun ⟨w, w1, w2⟩ => ⟨w, by omega, w2⟩)⟩
        rcases Nat.lt_or_ge w i with u | u
        · exact hm2 w u hpw
        · rw [show w = i by omega, hp] at hpw
          cases hpw
      · rw [hp] at r
        have r2 := k_doubt52 hs hc hw hl hf hm ⟨mn, md, mk, mi⟩ hr qi hp
        cases hd : D i with
        | none =>
          rw [show firstB (fun k => !hoB S M i k) n = none from hd] at r2
          exact Or.inr ⟨.inl (), by simp (disch := first | assumption | omega | decide | ((repeat first | apply lyI | apply lyJ | apply lywI | apply lywJ | apply csI | apply csJ | apply cswI | apply cswJ); assumption)) only [f_X3_firstClash_b16, f_X3_firstClash_j57, SH52, SC, LI, ↓li_m1, nI_add, pk_mul, nn_sub, nn_m1, nn_div, nn_rem, nn_nz, nn_mod, nJ_l, lN_add, lN_mul, nn_tb1, nI_bt, nn_and, nn_or, nn_xor, nn_shr, nn_1shl, nn_31, il_p, il_n, it_p, it_n, ie_p, ie_n, ie_b, ie_b1, ie_m, ie_mm, it_m, it_m0, il_m0, bI_rZ, Option.bind_some, bd2_some, Nat.add_zero, Nat.zero_add, if_true, if_false, Bool.false_eq_true, eq_self, hI_R, hJ_R, hf, ew, r, bI_t, r2, dbI], Or.inl ⟨rfl, i, qi, hp, hd⟩⟩
        | some x =>
          rw [show firstB (fun k => !hoB S M i k) n = some x from hd] at r2
          have xl := (firstB_s.mp hd).1
          refine Or.inl ⟨(nI (max m x), nI (i + 1)), by simp (disch := first | assumption | omega | decide | ((repeat first | apply lyI | apply lyJ | apply lywI | apply lywJ | apply csI | apply csJ | apply cswI | apply cswJ); assumption)) only [f_X3_firstClash_b16, f_X3_firstClash_j57, SH52, SC, LI, ↓li_m1, nI_add, pk_mul, nn_sub, nn_m1, nn_div, nn_rem, nn_nz, nn_mod, nJ_l, lN_add, lN_mul, nn_tb1, nI_bt, nn_and, nn_or, nn_xor, nn_shr, nn_1shl, nn_31, il_p, il_n, it_p, it_n, ie_p, ie_n, ie_b, ie_b1, ie_m, ie_mm, it_m, it_m0, il_m0, bI_rZ, Option.bind_some, bd2_some, Nat.add_zero, Nat.zero_add, if_true, if_false, Bool.false_eq_true, eq_self, hI_R, hJ_R, hf, ew, r, bI_t, r2, dbI, mx_nI], qi, max m x, rfl, by omega, fun w hw hpw => ?_, ?_⟩
          · rcases Nat.lt_or_ge w i with u | u
            · obtain ⟨y, y1, y2⟩ := hm2 w u hpw
              exact ⟨y, y1, by omega⟩
            · rw [show w = i by omega]
              exact ⟨x, hd, by omega⟩
          · rcases Nat.lt_or_ge m x with u | u
            · rw [Nat.max_eq_right (by omega)]
              exact Or.inr ⟨i, by omega, hp, hd⟩
            · rw [Nat.max_eq_left u]
              exact hm3.imp id (fun ⟨w, w1, w2⟩ => ⟨w, by omega, w2⟩)
    · obtain rfl : i = A 2 := by omega
      exact Or.inr ⟨.inr (nI m), by simp (disch := first | assumption | omega | decide | ((repeat first | apply lyI | apply lyJ | apply lywI | apply lywJ | apply csI | apply csJ | apply cswI | apply cswJ); assumption)) only [f_X3_firstClash_b16, f_X3_firstClash_j57, SH52, SC, LI, ↓li_m1, nI_add, pk_mul, nn_sub, nn_m1, nn_div, nn_rem, nn_nz, nn_mod, nJ_l, lN_add, lN_mul, nn_tb1, nI_bt, nn_and, nn_or, nn_xor, nn_shr, nn_1shl, nn_31, il_p, il_n, it_p, it_n, ie_p, ie_n, ie_b, ie_b1, ie_m, ie_mm, it_m, it_m0, il_m0, bI_rZ, Option.bind_some, bd2_some, Nat.add_zero, Nat.zero_add, if_true, if_false, Bool.false_eq_true, eq_self, hI_R, hJ_R, hf, ew], Or.inr ⟨m, rfl, hm1, hm2, hm3⟩⟩
  obtain ⟨_, e1, ⟨rfl, w, w1, w2, w3⟩ | ⟨m, rfl, g1, g2, g3⟩⟩ := e
  · have : clO A P S M n = none := firstB_n.mpr (fun k hk => by
      have : bnB P S M (k + 1) w = true := by
        unfold bnB
        rw [w2, Bool.true_and, allB_iff]
        intro j hj
        have := firstB_n.mp w3 j (by omega)
        simpa using this
      rw [beq_eq_false_iff_ne]
      intro e
      rw [cntB_0.mp e w w1] at this
      cases this)
    rw [this]
    simp (disch := first | assumption | omega | decide | ((repeat first | apply lyI | apply lyJ | apply lywI | apply lywJ | apply csI | apply csJ | apply cswI | apply cswJ); assumption)) only [f_X3_firstClash, SH52, LI, ↓li_m1, nI_add, pk_mul, nn_sub, nn_m1, nn_div, nn_rem, nn_nz, nn_mod, nJ_l, lN_add, lN_mul, nn_tb1, nI_bt, nn_and, nn_or, nn_xor, nn_shr, nn_1shl, nn_31, il_p, il_n, it_p, it_n, ie_p, ie_n, ie_b, ie_b1, ie_m, ie_mm, it_m, it_m0, il_m0, bI_rZ, Option.bind_some, bd2_some, Nat.add_zero, Nat.zero_add, if_true, if_false, Bool.false_eq_true, eq_self, hI_R, hJ_R, m4, e1]
    rfl
  · have : clO A P S M n = some m := firstB_s.mpr ⟨g1, by
      rw [beq_iff_eq, cntB_0]
      intro w hw
      cases hp : P w
      · show (P w && _) = false
        rw [hp]
        rfl
      · obtain ⟨x, x1, x2⟩ := g2 w hw hp
        exact (bn_db hp x1).mpr x2, fun i hi => by
      rw [beq_eq_false_iff_ne]
      intro e
      rcases g3 with g3 | ⟨w, w1, w2, w3⟩
      · omega
      · have := (bn_db w2 w3).mp (cntB_0.mp e w w1)
        omega⟩
    rw [this]
    simp (disch := first | assumption | omega | decide | ((repeat first | apply lyI | apply lyJ | apply lywI | apply lywJ | apply csI | apply csJ | apply cswI | apply cswJ); assumption)) only [f_X3_firstClash, SH52, LI, ↓li_m1, nI_add, pk_mul, nn_sub, nn_m1, nn_div, nn_rem, nn_nz, nn_mod, nJ_l, lN_add, lN_mul, nn_tb1, nI_bt, nn_and, nn_or, nn_xor, nn_shr, nn_1shl, nn_31, il_p, il_n, it_p, it_n, ie_p, ie_n, ie_b, ie_b1, ie_m, ie_mm, it_m, it_m0, il_m0, bI_rZ, Option.bind_some, bd2_some, Nat.add_zero, Nat.zero_add, if_true, if_false, Bool.false_eq_true, eq_self, hI_R, hJ_R, m4, e1]
    rfl
/-- who is never honest in a world that is left -/
def liN (A : Nat → Nat) (P : Nat → Bool) (S : Nat → Nat → Nat → Nat → Nat) (M : Nat → Nat → Nat) (n : Nat) : Nat → Nat := orN (fun v => if anyB (fun w => lvB A P S M n w && !anyB (ahB S M v w) n) (A 2) = true then 0 else 2 ^ v)
theorem ah_fc {S : Nat → Nat → Nat → Nat → Nat} {M : Nat → Nat → Nat} {v w n : Nat} : (!anyB (ahB S M v w) n) = (fcN S M w v n).testBit 0 := by
  rw [fc_bit0, Bool.eq_iff_iff, allB_iff, Bool.not_eq_true', anyB_f]
  refine forall_congr' (fun k => forall_congr' (fun _ => ?_))
  unfold ahB
  by_cases hx : M k 0 = v <;> by_cases hy : S v (M k 1) w 0 = M k 2 <;> simp [hx, hy]
theorem or_pk4 {f : Nat → Nat → Nat} (hf : ∀ i u, f i u < 16) : ∀ n, orN (fun i => pk4 (f i)) n = pk4 (fun u => orN (fun i => f i u) n)
  | 0 => rfl
  | n + 1 => by
    have ih := or_pk4 hf n
    show orN _ n ||| pk4 (f n) = pk4 (fun u => orN (fun i => f i u) n ||| f n u)
    rw [ih]
    have l : ∀ u, orN (fun i => f i u) n < 16 := fun u => orN_lt (k := 4) (fun i _ => hf i u)
    have or16 : ∀ {a b c d : Nat}, a < 16 → c < 16 → (16 * b + a) ||| (16 * d + c) = 16 * (b ||| d) + (a ||| c) := fun {a b c d} ha hc => by
      have hac : a ||| c < 2 ^ 4 := Nat.or_lt_two_pow ha hc
      apply Nat.eq_of_testBit_eq
      intro i
      rw [Nat.testBit_or, show (16 : Nat) = 2 ^ 4 from rfl, Nat.testBit_two_pow_mul_add b (show a < 2 ^ 4 from ha), Nat.testBit_two_pow_mul_add d (show c < 2 ^ 4 from hc), Nat.testBit_two_pow_mul_add _ hac]
      split
      · rw [Nat.testBit_or]
      · rw [Nat.testBit_or]
    unfold pk4
    rw [or16 (l 0) (hf n 0), or16 (l 1) (hf n 1), or16 (l 2) (hf n 2)]
theorem k_liars52 {h : aH} {c : Nat} (hs : CS h c) {A : Nat → Nat} {P : Nat → Bool} {Q : Nat → Nat → Bool} {S : Nat → Nat → Nat → Nat → Nat} (hc : CC h c A P Q S) (hw : WF A) (hl : LAY h) (hf : h.2.2.2 52 4 = some c) {n d : Nat} {M : Nat → Nat → Nat} (hm : MN h 53 n d M) (mw : MW A n d M) (hr : HR h 52 A P S M n) : f_X3_neverHonest h 52 = some (nI (liN A P S M n (A 4))) := by
  obtain ⟨b0, b1, b2l, b2, b3, b4⟩ := wf_b hw
  obtain ⟨mn, md, mk, mi⟩ := mw
  have hv : h.2.1 52 5 = nI (cntB (lvB A P S M n) (A 2)) := hr.1
  have cle := cntB_le (lvB A P S M n) (A 2)
  have hal : ∀ j, j < cntB (lvB A P S M n) (A 2) → h.2.1 59 j = nI (alN (lvB A P S M n) (A 2) j) ∧ alN (lvB A P S M n) (A 2) j < A 2 ∧ lvB A P S M n (alN (lvB A P S M n) (A 2) j) = true := fun j hj => hr_al hr hj
  have aln := al_N (lvB A P S M n) (A 2)
  have e4 := hc.1.2.2.2.2.2.1
  let G : Nat → Nat := fun u => orN (fun j => fcN S M (alN (lvB A P S M n) (A 2) j) u n) (cntB (lvB A P S M n) (A 2))
  have lf : ∀ i u, fcN S M (alN (lvB A P S M n) (A 2) i) u n < 16 := fun i u => fcN_lt _ _ _ _ _
  have e1 : f_X3_neverHonest_l4 h 52 (nI 0) (nI 0) = some (nI (pk4 G)) := by
    rw [← or_pk4 lf]
    refine for0 (body := fun zz : Int32 × Int32 => f_X3_neverHonest_b4 h 52 zz.1 zz.2) (fun j => (nI (orN (fun i => pk4 (fun u => fcN S M (alN (lvB A P S M n) (A 2) i) u n)) j), nI j)) (cntB (lvB A P S M n) (A 2)) (e := nI (orN (fun i => pk4 (fun u => fcN S M (alN (lvB A P S M n) (A 2) i) u n)) (cntB (lvB A P S M n) (A 2)))) (rfl) (by omega) (fun j hj => ?_) ?_
    · obtain ⟨a1, a2, a3⟩ := hal j hj
      have e : h.2.1 58 (alN (lvB A P S M n) (A 2) j) = nI (pk4 (fun u => fcN S M (alN (lvB A P S M n) (A 2) j) u n)) := hr.2.2.1 _ a2 (lv_P a3)
      simp (disch := first | assumption | omega | decide | ((repeat first | apply lyI | apply lyJ | apply lywI | apply lywJ | apply csI | apply csJ | apply cswI | apply cswJ); assumption)) only [f_X3_neverHonest_b4, f_X3_neverHonest_j63, SH52, LI, ↓li_m1, nI_add, pk_mul, nn_sub, nn_m1, nn_div, nn_rem, nn_nz, nn_mod, nJ_l, lN_add, lN_mul, nn_tb1, nI_bt, nn_and, nn_or, nn_xor, nn_shr, nn_1shl, nn_31, il_p, il_n, it_p, it_n, ie_p, ie_n, ie_b, ie_b1, ie_m, ie_mm, it_m, it_m0, il_m0, bI_rZ, Option.bind_some, bd2_some, Nat.add_zero, Nat.zero_add, if_true, if_false, Bool.false_eq_true, eq_self, hI_R, hJ_R, hv, a1, e]
      rfl
    · simp (disch := first | assumption | omega | decide | ((repeat first | apply lyI | apply lyJ | apply lywI | apply lywJ | apply csI | apply csJ | apply cswI | apply cswJ); assumption)) only [f_X3_neverHonest_b4, f_X3_neverHonest_j63, SH52, LI, ↓li_m1, nI_add, pk_mul, nn_sub, nn_m1, nn_div, nn_rem, nn_nz, nn_mod, nJ_l, lN_add, lN_mul, nn_tb1, nI_bt, nn_and, nn_or, nn_xor, nn_shr, nn_1shl, nn_31, il_p, il_n, it_p, it_n, ie_p, ie_n, ie_b, ie_b1, ie_m, ie_mm, it_m, it_m0, il_m0, bI_rZ, Option.bind_some, bd2_some, Nat.add_zero, Nat.zero_add, if_true, if_false, Bool.false_eq_true, eq_self, hI_R, hJ_R, hv]
  have lG : ∀ u, u < 4 → G u < 16 := fun u _ => orN_lt (k := 4) (fun i _ => lf i u)
  have lp := pk4_lt lG
  have eb : ∀ v, v < 4 → (pk4 G).testBit (v * 4) = anyB (fun w => lvB A P S M n w && !anyB (ahB S M v w) n) (A 2) := fun v hv => by
    have h1 := pk4_at lG hv
    have h2 : ((pk4 G >>> (v * 4)) &&& 15).testBit 0 = (pk4 G).testBit (v * 4) := by
      rw [Nat.testBit_and, Nat.testBit_shiftRight, Nat.add_zero]
      show (_ && (15 : Nat).testBit 0) = _
      rw [show (15 : Nat).testBit 0 = true from by decide, Bool.and_true]
    rw [← h2, h1]
    show (orN _ _).testBit 0 = _
    rw [orN_bit, al_any (q := fun w => (fcN S M w v n).testBit 0) aln]
    exact anyB_congr (fun w _ => by rw [ah_fc])
  have e2 : f_X3_neverHonest_l36 h 52 (nI (pk4 G)) (nI 0) (nI 0) = some (nI (liN A P S M n (A 4))) := by
    refine for0 (body := fun zz : Int32 × Int32 => f_X3_neverHonest_b36 h 52 (nI (pk4 G)) zz.1 zz.2) (fun j => (nI (liN A P S M n j), nI j)) (A 4) (e := nI (liN A P S M n (A 4))) (rfl) (by omega) (fun j hj => ?_) ?_
    · have e5 := eb j (by omega)
      rcases (Bool.eq_false_or_eq_true (anyB (fun w => lvB A P S M n w && !anyB (ahB S M j w) n) (A 2))).symm with hx | hx
      · rw [hx] at e5
        simp (disch := first | assumption | omega | decide | ((repeat first | apply lyI | apply lyJ | apply lywI | apply lywJ | apply csI | apply csJ | apply cswI | apply cswJ); assumption)) only [f_X3_neverHonest_b36, f_X3_neverHonest_j63, SH52, SC, LI, ↓li_m1, nI_add, pk_mul, nn_sub, nn_m1, nn_div, nn_rem, nn_nz, nn_mod, nJ_l, lN_add, lN_mul, nn_tb1, nI_bt, nn_and, nn_or, nn_xor, nn_shr, nn_1shl, nn_31, il_p, il_n, it_p, it_n, ie_p, ie_n, ie_b, ie_b1, ie_m, ie_mm, it_m, it_m0, il_m0, bI_rZ, Option.bind_some, bd2_some, Nat.add_zero, Nat.zero_add, if_true, if_false, Bool.false_eq_true, eq_self, hI_R, hJ_R, hf, e4, e5, bI_f]
        simp only [liN, orN, hx, Bool.false_eq_true, if_false]
      · rw [hx] at e5
        simp (disch := first | assumption | omega | decide | ((repeat first | apply lyI | apply lyJ | apply lywI | apply lywJ | apply csI | apply csJ | apply cswI | apply cswJ); assumption)) only [f_X3_neverHonest_b36, f_X3_neverHonest_j63, SH52, SC, LI, ↓li_m1, nI_add, pk_mul, nn_sub, nn_m1, nn_div, nn_rem, nn_nz, nn_mod, nJ_l, lN_add, lN_mul, nn_tb1, nI_bt, nn_and, nn_or, nn_xor, nn_shr, nn_1shl, nn_31, il_p, il_n, it_p, it_n, ie_p, ie_n, ie_b, ie_b1, ie_m, ie_mm, it_m, it_m0, il_m0, bI_rZ, Option.bind_some, bd2_some, Nat.add_zero, Nat.zero_add, if_true, if_false, Bool.false_eq_true, eq_self, hI_R, hJ_R, hf, e4, e5, bI_t]
        simp only [liN, orN, hx, if_true, Nat.or_zero]
    · simp (disch := first | assumption | omega | decide | ((repeat first | apply lyI | apply lyJ | apply lywI | apply lywJ | apply csI | apply csJ | apply cswI | apply cswJ); assumption)) only [f_X3_neverHonest_b36, f_X3_neverHonest_j63, SH52, SC, LI, ↓li_m1, nI_add, pk_mul, nn_sub, nn_m1, nn_div, nn_rem, nn_nz, nn_mod, nJ_l, lN_add, lN_mul, nn_tb1, nI_bt, nn_and, nn_or, nn_xor, nn_shr, nn_1shl, nn_31, il_p, il_n, it_p, it_n, ie_p, ie_n, ie_b, ie_b1, ie_m, ie_mm, it_m, it_m0, il_m0, bI_rZ, Option.bind_some, bd2_some, Nat.add_zero, Nat.zero_add, if_true, if_false, Bool.false_eq_true, eq_self, hI_R, hJ_R, hf, e4]
  simp (disch := first | assumption | omega | decide | ((repeat first | apply lyI | apply lyJ | apply lywI | apply lywJ | apply csI | apply csJ | apply cswI | apply cswJ); assumption)) only [f_X3_neverHonest, SH52, LI, ↓li_m1, nI_add, pk_mul, nn_sub, nn_m1, nn_div, nn_rem, nn_nz, nn_mod, nJ_l, lN_add, lN_mul, nn_tb1, nI_bt, nn_and, nn_or, nn_xor, nn_shr, nn_1shl, nn_31, il_p, il_n, it_p, it_n, ie_p, ie_n, ie_b, ie_b1, ie_m, ie_mm, it_m, it_m0, il_m0, bI_rZ, Option.bind_some, bd2_some, Nat.add_zero, Nat.zero_add, if_true, if_false, Bool.false_eq_true, eq_self, hI_R, hJ_R, e1, e2]
/-- what the k-th answer takes away -/
def gaN (A : Nat → Nat) (P : Nat → Bool) (S : Nat → Nat → Nat → Nat → Nat) (M : Nat → Nat → Nat) (k : Nat) : Nat → Nat := cntB (fun w => P w && (kfN S (M k 0) (M k 1) w (M k 2) &&& mayN A (M k 0) == 0))
theorem m15 : ∀ v, v < 4 → nI 15 <<< nI (v * 4) = nI (pk4 (fun u => if u = v then 15 else 0)) := by decide +kernel
theorem pk4_0 {g : Nat → Nat} : pk4 g = 0 ↔ g 0 = 0 ∧ g 1 = 0 ∧ g 2 = 0 ∧ g 3 = 0 := by
  unfold pk4
  omega
theorem k_gave52 {h : aH} {c : Nat} (hs : CS h c) {A : Nat → Nat} {P : Nat → Bool} {Q : Nat → Nat → Bool} {S : Nat → Nat → Nat → Nat → Nat} (hc : CC h c A P Q S) (hw : WF A) (hl : LAY h) (hf : h.2.2.2 52 4 = some c) {n d : Nat} {M : Nat → Nat → Nat} (hm : MN h 53 n d M) (mw : MW A n d M) (hr : HR h 52 A P S M n) {k : Nat} (hk : k < n) : f_X3_takenAwayBy h 52 (nI k) = some (nI (gaN A P S M k (A 2))) := by
  obtain ⟨b0, b1, b2l, b2, b3, b4⟩ := wf_b hw
  obtain ⟨mn, md, mk, mi⟩ := mw
  have hv : h.2.1 52 5 = nI (cntB (lvB A P S M n) (A 2)) := hr.1
  have cle := cntB_le (lvB A P S M n) (A 2)
  have hal : ∀ j, j < cntB (lvB A P S M n) (A 2) → h.2.1 59 j = nI (alN (lvB A P S M n) (A 2) j) ∧ alN (lvB A P S M n) (A 2) j < A 2 ∧ lvB A P S M n (alN (lvB A P S M n) (A 2) j) = true := fun j hj => hr_al hr hj
  have aln := al_N (lvB A P S M n) (A 2)
  have ew := hc.1.2.2.1
  have em := hc.1.2.2.2.2.2.2
  have mk' := mk k hk
  have g0 : h.2.1 54 k = nI (M k 0) := (hm.2.2 k hk).1
  have e15 := m15 (M k 0) (by omega)
  have e1 : f_X3_takenAwayBy_l4 h 52 (nI k) (nI 0) (nI 0) = some (nI (gaN A P S M k (A 2))) := by
    refine for0 (body := fun zz : Int32 × Int32 => f_X3_takenAwayBy_b4 h 52 (nI k) zz.1 zz.2) (fun j => (nI (gaN A P S M k j), nI j)) (A 2) (e := nI (gaN A P S M k (A 2))) (rfl) (by omega) (fun j hj => ?_) ?_
    · have r := c_canBe hs hc hw hj
      have gl := cntB_le (fun w => P w && (kfN S (M k 0) (M k 1) w (M k 2) &&& mayN A (M k 0) == 0)) j
      cases hp : P j
      · rw [hp] at r
        simp (disch := first | assumption | omega | decide | ((repeat first | apply lyI | apply lyJ | apply lywI | apply lywJ | apply csI | apply csJ | apply cswI | apply cswJ); assumption)) only [f_X3_takenAwayBy_b4, f_X3_takenAwayBy_j65, SH52, SC, LI, ↓li_m1, nI_add, pk_mul, nn_sub, nn_m1, nn_div, nn_rem, nn_nz, nn_mod, nJ_l, lN_add, lN_mul, nn_tb1, nI_bt, nn_and, nn_or, nn_xor, nn_shr, nn_1shl, nn_31, il_p, il_n, it_p, it_n, ie_p, ie_n, ie_b, ie_b1, ie_m, ie_mm, it_m, it_m0, il_m0, bI_rZ, Option.bind_some, bd2_some, Nat.add_zero, Nat.zero_add, if_true, if_false, Bool.false_eq_true, eq_self, hI_R, hJ_R, hf, ew, g0, r, bI_f]
        unfold gaN
        rw [cntB_f (by rw [hp]; rfl)]
      · rw [hp] at r
        have r2 := k_agree52 hs hc hw hl hf hm hk ⟨mk'.1, mk'.2.1, mk'.2.2.1⟩ mn hj hp
        have f4 : ∀ u, u < 4 → (fun u => if u = M k 0 then kfN S (M k 0) (M k 1) j (M k 2) else 15) u < 16 := fun u _ => by
          show (if u = M k 0 then _ else _) < 16
          split
          · exact kfN_lt _ _ _ _ _
          · decide
        have m4 : ∀ u, u < 4 → myN A u < 16 := fun u _ => myN_lt u
        have ea := pk4_and f4 m4
        have eb := pk4_and (f := fun u => (if u = M k 0 then kfN S (M k 0) (M k 1) j (M k 2) else 15) &&& myN A u) (g := fun u => if u = M k 0 then 15 else 0) (fun u hu => Nat.lt_of_le_of_lt Nat.and_le_left (f4 u hu)) (fun u _ => by
          show (if u = M k 0 then 15 else 0) < 16
          split <;> decide)
        have ec : (pk4 (fun u => ((if u = M k 0 then kfN S (M k 0) (M k 1) j (M k 2) else 15) &&& myN A u) &&& (if u = M k 0 then 15 else 0)) = 0) ↔ kfN S (M k 0) (M k 1) j (M k 2) &&& mayN A (M k 0) = 0 := by
          have my : myN A (M k 0) = mayN A (M k 0) := if_pos mk'.1
          have kl : kfN S (M k 0) (M k 1) j (M k 2) &&& mayN A (M k 0) < 16 := Nat.lt_of_le_of_lt Nat.and_le_left (kfN_lt _ _ _ _ _)
          have all : (∀ u, u < 4 → ((if u = M k 0 then kfN S (M k 0) (M k 1) j (M k 2) else 15) &&& myN A u) &&& (if u = M k 0 then 15 else 0) = 0) ↔ kfN S (M k 0) (M k 1) j (M k 2) &&& mayN A (M k 0) = 0 := by
            constructor
            · intro h
              have := h (M k 0) (by omega)
              rw [if_pos rfl, if_pos rfl, my, and15, Nat.mod_eq_of_lt kl] at this
              exact this
            · intro h u _
              by_cases hu : u = M k 0
              · rw [if_pos hu, if_pos hu, hu, my, h, Nat.zero_and]
              · rw [if_neg hu, if_neg hu, Nat.and_zero]
          rw [pk4_0, ← all]
          constructor
          · rintro ⟨u0, u1, u2, u3⟩ u hu
            rcases lt4 hu with rfl | rfl | rfl | rfl
            · exact u0
            · exact u1
            · exact u2
            · exact u3
          · intro h
            exact ⟨h 0 (by decide), h 1 (by decide), h 2 (by decide), h 3 (by decide)⟩
        have lz : pk4 (fun u => ((if u = M k 0 then kfN S (M k 0) (M k 1) j (M k 2) else 15) &&& myN A u) &&& (if u = M k 0 then 15 else 0)) < 65536 := pk4_lt (fun u hu => Nat.lt_of_le_of_lt Nat.and_le_left (Nat.lt_of_le_of_lt Nat.and_le_left (f4 u hu)))
        by_cases hx : pk4 (fun u => ((if u = M k 0 then kfN S (M k 0) (M k 1) j (M k 2) else 15) &&& myN A u) &&& (if u = M k 0 then 15 else 0)) = 0
        · simp (disch := first | assumption | omega | decide | ((repeat first | apply lyI | apply lyJ | apply lywI | apply lywJ | apply csI | apply csJ | apply cswI | apply cswJ); assumption)) only [f_X3_takenAwayBy_b4, f_X3_takenAwayBy_j65, SH52, SC, LI, ↓li_m1, nI_add, pk_mul, nn_sub, nn_m1, nn_div, nn_rem, nn_nz, nn_mod, nJ_l, lN_add, lN_mul, nn_tb1, nI_bt, nn_and, nn_or, nn_xor, nn_shr, nn_1shl, nn_31, il_p, il_n, it_p, it_n, ie_p, ie_n, ie_b, ie_b1, ie_m, ie_mm, it_m, it_m0, il_m0, bI_rZ, Option.bind_some, bd2_some, Nat.add_zero, Nat.zero_add, if_true, if_false, Bool.false_eq_true, eq_self, hI_R, hJ_R, hf, ew, g0, r, bI_t, r2, em, e15, ea, eb, hx]
          unfold gaN
          rw [cntB_t (by rw [hp, ec.mp hx]; rfl)]
        · simp (disch := first | assumption | omega | decide | ((repeat first | apply lyI | apply lyJ | apply lywI | apply lywJ | apply csI | apply csJ | apply cswI | apply cswJ); assumption)) only [f_X3_takenAwayBy_b4, f_X3_takenAwayBy_j65, SH52, SC, LI, ↓li_m1, nI_add, pk_mul, nn_sub, nn_m1, nn_div, nn_rem, nn_nz, nn_mod, nJ_l, lN_add, lN_mul, nn_tb1, nI_bt, nn_and, nn_or, nn_xor, nn_shr, nn_1shl, nn_31, il_p, il_n, it_p, it_n, ie_p, ie_n, ie_b, ie_b1, ie_m, ie_mm, it_m, it_m0, il_m0, bI_rZ, Option.bind_some, bd2_some, Nat.add_zero, Nat.zero_add, if_true, if_false, Bool.false_eq_true, eq_self, hI_R, hJ_R, hf, ew, g0, r, bI_t, r2, em, e15, ea, eb]
          unfold gaN
          rw [cntB_f (by rw [hp, beq_eq_false_iff_ne.mpr (fun e => hx (ec.mpr e))]; rfl)]
    · simp (disch := first | assumption | omega | decide | ((repeat first | apply lyI | apply lyJ | apply lywI | apply lywJ | apply csI | apply csJ | apply cswI | apply cswJ); assumption)) only [f_X3_takenAwayBy_b4, f_X3_takenAwayBy_j65, SH52, SC, LI, ↓li_m1, nI_add, pk_mul, nn_sub, nn_m1, nn_div, nn_rem, nn_nz, nn_mod, nJ_l, lN_add, lN_mul, nn_tb1, nI_bt, nn_and, nn_or, nn_xor, nn_shr, nn_1shl, nn_31, il_p, il_n, it_p, it_n, ie_p, ie_n, ie_b, ie_b1, ie_m, ie_mm, it_m, it_m0, il_m0, bI_rZ, Option.bind_some, bd2_some, Nat.add_zero, Nat.zero_add, if_true, if_false, Bool.false_eq_true, eq_self, hI_R, hJ_R, hf, ew]
  simp (disch := first | assumption | omega | decide | ((repeat first | apply lyI | apply lyJ | apply lywI | apply lywJ | apply csI | apply csJ | apply cswI | apply cswJ); assumption)) only [f_X3_takenAwayBy, SH52, LI, ↓li_m1, nI_add, pk_mul, nn_sub, nn_m1, nn_div, nn_rem, nn_nz, nn_mod, nJ_l, lN_add, lN_mul, nn_tb1, nI_bt, nn_and, nn_or, nn_xor, nn_shr, nn_1shl, nn_31, il_p, il_n, it_p, it_n, ie_p, ie_n, ie_b, ie_b1, ie_m, ie_mm, it_m, it_m0, il_m0, bI_rZ, Option.bind_some, bd2_some, Nat.add_zero, Nat.zero_add, if_true, if_false, Bool.false_eq_true, eq_self, hI_R, hJ_R, e1]
