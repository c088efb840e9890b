/-! ===== searching loops; the other bench; what an answer leaves ===== -/
def firstB (p : Nat → Bool) : Nat → Option Nat
  | 0 => none
  | n + 1 => match firstB p n with
    | some i => some i
    | none => if p n = true then some n else none
theorem firstB_n {p : Nat → Bool} : ∀ {n}, firstB p n = none ↔ ∀ i, i < n → p i = false
  | 0 => by simp [firstB]
  | n + 1 => by
    unfold firstB
    cases hf : firstB p n with
    | some i =>
      simp only [reduceCtorEq, false_iff]
      intro h
      have := firstB_n.mpr (fun i hi => h i (Nat.lt_succ_of_lt hi))
      rw [hf] at this
      cases this
    | none =>
      have := firstB_n.mp hf
      cases hp : p n
      · simp only [Bool.false_eq_true, if_false, true_iff]
        intro i hi
        rcases Nat.lt_or_ge i n with q | q
        · exact this i q
        · rw [show i = n by omega, hp]
      · simp only [if_true, reduceCtorEq, false_iff]
        intro h
        rw [h n (by omega)] at hp
        cases hp
theorem firstB_s {p : Nat → Bool} {j : Nat} : ∀ {n}, firstB p n = some j ↔ j < n ∧ p j = true ∧ ∀ i, i < j → p i = false
  | 0 => by simp [firstB]
  | n + 1 => by
    unfold firstB
    cases hf : firstB p n with
    | some i =>
      obtain ⟨h1, h2, h3⟩ := firstB_s.mp hf
      simp only [Option.some.injEq]
      constructor
      · rintro rfl
        exact ⟨by omega, h2, h3⟩
      · rintro ⟨k1, k2, k3⟩
        rcases Nat.lt_trichotomy i j with q | q | q
        · rw [k3 i q] at h2
          cases h2
        · exact q
        · rw [h3 j q] at k2
          cases k2
    | none =>
      have hn := firstB_n.mp hf
      cases hp : p n
      · simp only [Bool.false_eq_true, if_false, reduceCtorEq, false_iff]
        rintro ⟨k1, k2, k3⟩
        rcases Nat.lt_or_ge j n with q | q
        · rw [hn j q] at k2
          cases k2
        · rw [show j = n by omega, hp] at k2
          cases k2
      · simp only [if_true, Option.some.injEq]
        constructor
        · rintro rfl
          exact ⟨by omega, hp, hn⟩
        · rintro ⟨k1, k2, k3⟩
          rcases Nat.lt_or_ge j n with q | q
          · rw [hn j q] at k2
            cases k2
          · omega
theorem srch {S E : Type} {body : S → Option (S ⊕ E)} {s : S} (st : Nat → S) (p : Nat → Bool) (n : Nat) (ex : Nat → E) (e2 : E) (h0 : s = st 0) (hn : n < 1000000) (hb : ∀ j, j < n → p j = false → body (st j) = some (.inl (st (j + 1)))) (hx : ∀ j, j < n → p j = true → body (st j) = some (.inr (ex j))) (he : body (st n) = some (.inr e2)) : whileL wN body s = some (match firstB p n with | some j => ex j | none => e2) := by
  subst h0
  have : ∃ e, whileL wN body (st 0) = some e ∧ e = (match firstB p n with | some j => ex j | none => e2) := by
    refine whl0 (fun i s => s = st i ∧ ∀ k, k < i → p k = false) _ n hn ⟨rfl, fun k hk => absurd hk (by omega)⟩ ?_
    rintro i _ ⟨rfl, hi⟩ hin
    rcases Nat.lt_or_ge i n with q | q
    · cases hp : p i
      · refine Or.inl ⟨_, hb i q hp, q, rfl, fun k hk => ?_⟩
        rcases Nat.lt_or_ge k i with u | u
        · exact hi k u
        · rw [show k = i by omega, hp]
      · exact Or.inr ⟨_, hx i q hp, by rw [firstB_s.mpr ⟨q, hp, hi⟩]⟩
    · obtain rfl : i = n := by omega
      exact Or.inr ⟨_, he, by rw [firstB_n.mpr hi]⟩
  obtain ⟨e, h1, h2⟩ := this
  rw [h1, h2]
theorem anyB_first {p : Nat → Bool} {n : Nat} : anyB p n = (firstB p n).isSome := by
  cases hf : firstB p n with
  | none => exact anyB_f.mpr (firstB_n.mp hf)
  | some j =>
    obtain ⟨h1, h2, h3⟩ := firstB_s.mp hf
    exact anyB_iff.mpr ⟨j, h1, h2⟩
theorem allB_mono {p : Nat → Bool} {i n : Nat} (h : allB p i = false) (hi : i ≤ n) : allB p n = false := by
  rw [← Bool.not_eq_true] at h ⊢
  rw [allB_iff] at h ⊢
  exact fun q => h (fun k hk => q k (by omega))
def hoB (S : Nat → Nat → Nat → Nat → Nat) (M : Nat → Nat → Nat) (w k : Nat) : Bool := S (M k 0) (M k 1) w 0 == M k 2
def bnB (P : Nat → Bool) (S : Nat → Nat → Nat → Nat → Nat) (M : Nat → Nat → Nat) (m w : Nat) : Bool := P w && allB (hoB S M w) m
theorem r_bench1 {h : aH} (hl : LAY h) {A : Nat → Nat} {P : Nat → Bool} {Q : Nat → Nat → Bool} (hc : CM h A P Q) (hw : WF A) {n d : Nat} {M : Nat → Nat → Nat} (hm : MM h n d M) (mw : MW A n d M) {S : Nat → Nat → Nat → Nat → Nat} (hs : SY h A P S) {m w : Nat} (x : Int32) (hmn : m ≤ n) (h1 : w < A 2) : f_X12_benchBy_l24 h 113 (nI m) x (nI w) (bI (P w)) (nI 0) = some (bI (bnB P S M m w)) := by
  obtain ⟨b0, b1, b2l, b2, b3, b4⟩ := wf_b hw
  obtain ⟨c0, c1, c2, c3, c4, cA⟩ := cm_e hc
  obtain ⟨m5, m6, mM⟩ := hm
  obtain ⟨mn, md, mk, mi⟩ := mw
  have e : ∃ e, f_X12_benchBy_l24 h 113 (nI m) x (nI w) (bI (P w)) (nI 0) = some e ∧ e = bI (bnB P S M m w) := by
    refine whl0 (fun i s => s = (bI (bnB P S M i w), nI i)) _ m (by omega) (by simp [bnB, allB, nI_0]) ?_
    rintro i s rfl hi
    rcases Nat.lt_or_ge i m with q | q
    · cases hz : bnB P S M i w
      · refine Or.inr ⟨bI false, by simp (disch := first | assumption | omega | decide) only [f_X12_benchBy_b24, f_X12_benchBy_j89, f_X12_benchBy_j78, f_X12_benchBy_j70, SM, LI, ↓li_m1, nI_add, pk_mul, nn_sub, nn_m1, nn_div, nn_rem, nn_nz, nn_mod, nJ_l, lN_add, lN_mul, nn_tb1, nI_bt, nn_and, nn_or, nn_xor, nn_shr, nn_1shl, nn_31, il_p, il_n, it_p, it_n, ie_p, ie_n, ie_b, ie_b1, ie_m, ie_mm, it_m, it_m0, il_m0, bI_rZ, Option.bind_some, bd2_some, Nat.add_zero, Nat.zero_add, if_true, if_false, Bool.false_eq_true, eq_self, bI_f], ?_⟩
        unfold bnB at hz ⊢
        cases hp : P w
        · rfl
        · rw [hp, Bool.true_and] at hz
          rw [allB_mono hz (by omega)]
          rfl
      · have hp : P w = true := (Bool.and_eq_true _ _ ▸ hz : _ ∧ _).1
        have q0 := mk i (by omega)
        have r0 := r_ofHeard hl (k := i) (i := 0) (by omega) (by decide)
        rw [mM i 0 (by omega) (by decide)] at r0
        have r1 := r_ofHeard hl (k := i) (i := 1) (by omega) (by decide)
        rw [mM i 1 (by omega) (by decide)] at r1
        have r2 := r_ofHeard hl (k := i) (i := 2) (by omega) (by decide)
        rw [mM i 2 (by omega) (by decide)] at r2
        have rs := r_saysAs hl (v := M i 0) (q := M i 1) (w := w) (k := 0) (by omega) (by omega) (by omega) (by decide)
        obtain ⟨s1, s2⟩ := hs (M i 0) (M i 1) w 0 q0.1 q0.2.1 h1 hp (by decide)
        rw [s1] at rs
        have en : bnB P S M (i + 1) w = hoB S M w i := by
          show (P w && (allB (hoB S M w) i && hoB S M w i)) = _
          rw [← Bool.and_assoc, show (P w && allB (hoB S M w) i) = true from hz, Bool.true_and]
        by_cases hx : S (M i 0) (M i 1) w 0 = M i 2
        · exact Or.inl ⟨_, by simp (disch := first | assumption | omega | decide) only [f_X12_benchBy_b24, f_X12_benchBy_j89, f_X12_benchBy_j78, f_X12_benchBy_j70, SM, LI, ↓li_m1, nI_add, pk_mul, nn_sub, nn_m1, nn_div, nn_rem, nn_nz, nn_mod, nJ_l, lN_add, lN_mul, nn_tb1, nI_bt, nn_and, nn_or, nn_xor, nn_shr, nn_1shl, nn_31, il_p, il_n, it_p, it_n, ie_p, ie_n, ie_b, ie_b1, ie_m, ie_mm, it_m, it_m0, il_m0, bI_rZ, Option.bind_some, bd2_some, Nat.add_zero, Nat.zero_add, if_true, if_false, Bool.false_eq_true, eq_self, bI_t, r0, r1, r2, rs]; rfl, q, by rw [en, show hoB S M w i = true from beq_iff_eq.mpr hx]; rfl⟩
        · exact Or.inl ⟨_, by simp (disch := first | assumption | omega | decide) only [f_X12_benchBy_b24, f_X12_benchBy_j89, f_X12_benchBy_j78, f_X12_benchBy_j70, SM, LI, ↓li_m1, nI_add, pk_mul, nn_sub, nn_m1, nn_div, nn_rem, nn_nz, nn_mod, nJ_l, lN_add, lN_mul, nn_tb1, nI_bt, nn_and, nn_or, nn_xor, nn_shr, nn_1shl, nn_31, il_p, il_n, it_p, it_n, ie_p, ie_n, ie_b, ie_b1, ie_m, ie_mm, it_m, it_m0, il_m0, bI_rZ, Option.bind_some, bd2_some, Nat.add_zero, Nat.zero_add, if_true, if_false, Bool.false_eq_true, eq_self, bI_t, r0, r1, r2, rs]; rfl, q, by rw [en, show hoB S M w i = false from beq_eq_false_iff_ne.mpr hx]; rfl⟩
    · obtain rfl : i = m := by omega
      exact Or.inr ⟨_, by simp (disch := first | assumption | omega | decide) only [f_X12_benchBy_b24, f_X12_benchBy_j89, f_X12_benchBy_j78, f_X12_benchBy_j70, SM, LI, ↓li_m1, nI_add, pk_mul, nn_sub, nn_m1, nn_div, nn_rem, nn_nz, nn_mod, nJ_l, lN_add, lN_mul, nn_tb1, nI_bt, nn_and, nn_or, nn_xor, nn_shr, nn_1shl, nn_31, il_p, il_n, it_p, it_n, ie_p, ie_n, ie_b, ie_b1, ie_m, ie_mm, it_m, it_m0, il_m0, bI_rZ, Option.bind_some, bd2_some, Nat.add_zero, Nat.zero_add, if_true, if_false, Bool.false_eq_true, eq_self], rfl⟩
  obtain ⟨_, e1, e2⟩ := e
  rw [e1, e2]
theorem r_benchBy {h : aH} (hl : LAY h) {A : Nat → Nat} {P : Nat → Bool} {Q : Nat → Nat → Bool} (hc : CM h A P Q) (hw : WF A) {n d : Nat} {M : Nat → Nat → Nat} (hm : MM h n d M) (mw : MW A n d M) {S : Nat → Nat → Nat → Nat → Nat} (hs : SY h A P S) {m : Nat} (hmn : m ≤ n) : f_X12_benchBy h 113 (nI m) = some (nI (cntB (bnB P S M m) (A 2))) := by
  obtain ⟨b0, b1, b2l, b2, b3, b4⟩ := wf_b hw
  obtain ⟨c0, c1, c2, c3, c4, cA⟩ := cm_e hc
  have e : f_X12_benchBy_l4 h 113 (nI m) (nI 0) (nI 0) = some (nI (cntB (bnB P S M m) (A 2))) := by
    refine for0 (body := fun zz : Int32 × Int32 => f_X12_benchBy_b4 h 113 (nI m) zz.1 zz.2) (fun j => (nI (cntB (bnB P S M m) j), nI j)) (A 2) (e := nI (cntB (bnB P S M m) (A 2))) (rfl) (by omega) (fun j hj => ?_) ?_
    · have r0 := r_poss hl hc (w := j) (by omega)
      have r := r_bench1 hl hc hw hm mw hs (nI (cntB (bnB P S M m) j)) hmn hj
      simp (disch := first | assumption | omega | decide) only [f_X12_benchBy_b4, f_X12_benchBy_j89, f_X12_benchBy_j78, f_X12_benchBy_j70, SM, LI, ↓li_m1, nI_add, pk_mul, nn_sub, nn_m1, nn_div, nn_rem, nn_nz, nn_mod, nJ_l, lN_add, lN_mul, nn_tb1, nI_bt, nn_and, nn_or, nn_xor, nn_shr, nn_1shl, nn_31, il_p, il_n, it_p, it_n, ie_p, ie_n, ie_b, ie_b1, ie_m, ie_mm, it_m, it_m0, il_m0, bI_rZ, Option.bind_some, bd2_some, Nat.add_zero, Nat.zero_add, if_true, if_false, Bool.false_eq_true, eq_self, c2, r0, r, cntB]
      cases bnB P S M m j <;> rfl
    · simp (disch := first | assumption | omega | decide) only [f_X12_benchBy_b4, f_X12_benchBy_j89, f_X12_benchBy_j78, f_X12_benchBy_j70, SM, LI, ↓li_m1, nI_add, pk_mul, nn_sub, nn_m1, nn_div, nn_rem, nn_nz, nn_mod, nJ_l, lN_add, lN_mul, nn_tb1, nI_bt, nn_and, nn_or, nn_xor, nn_shr, nn_1shl, nn_31, il_p, il_n, it_p, it_n, ie_p, ie_n, ie_b, ie_b1, ie_m, ie_mm, it_m, it_m0, il_m0, bI_rZ, Option.bind_some, bd2_some, Nat.add_zero, Nat.zero_add, if_true, if_false, Bool.false_eq_true, eq_self, c2]
  simp (disch := first | assumption | omega | decide) only [f_X12_benchBy, SM, LI, ↓li_m1, nI_add, pk_mul, nn_sub, nn_m1, nn_div, nn_rem, nn_nz, nn_mod, nJ_l, lN_add, lN_mul, nn_tb1, nI_bt, nn_and, nn_or, nn_xor, nn_shr, nn_1shl, nn_31, il_p, il_n, it_p, it_n, ie_p, ie_n, ie_b, ie_b1, ie_m, ie_mm, it_m, it_m0, il_m0, bI_rZ, Option.bind_some, bd2_some, Nat.add_zero, Nat.zero_add, if_true, if_false, Bool.false_eq_true, eq_self, e]
def ahB (S : Nat → Nat → Nat → Nat → Nat) (M : Nat → Nat → Nat) (v w k : Nat) : Bool := M k 0 == v && S v (M k 1) w 0 != M k 2
theorem r_aHon {h : aH} (hl : LAY h) {A : Nat → Nat} {P : Nat → Bool} {Q : Nat → Nat → Bool} (hc : CM h A P Q) (hw : WF A) {n d : Nat} {M : Nat → Nat → Nat} (hm : MM h n d M) (mw : MW A n d M) {S : Nat → Nat → Nat → Nat → Nat} (hs : SY h A P S) {v w : Nat} (hv : v < A 4) (h1 : w < A 2) (hp : P w = true) : f_X12_answersHonestly h 113 (nI v) (nI w) = some (bI (!anyB (ahB S M v w) n)) := by
  obtain ⟨b0, b1, b2l, b2, b3, b4⟩ := wf_b hw
  obtain ⟨c0, c1, c2, c3, c4, cA⟩ := cm_e hc
  obtain ⟨m5, m6, mM⟩ := hm
  obtain ⟨mn, md, mk, mi⟩ := mw
  have e : f_X12_answersHonestly_l2 h 113 (nI v) (nI w) (nI 0) = some (match firstB (ahB S M v w) n with | some _ => .inl () | none => .inr ()) := by
    have rr : ∀ i, i < n → f_X12_answersHonestly_b2 h 113 (nI v) (nI w) (nI i) = if ahB S M v w i = true then some (.inr (.inl ())) else some (.inl (nI (i + 1))) := fun i hi => by
      have q0 := mk i hi
      have r0 := r_ofHeard hl (k := i) (i := 0) (by omega) (by decide)
      rw [mM i 0 (by omega) (by decide)] at r0
      have r1 := r_ofHeard hl (k := i) (i := 1) (by omega) (by decide)
      rw [mM i 1 (by omega) (by decide)] at r1
      have r2 := r_ofHeard hl (k := i) (i := 2) (by omega) (by decide)
      rw [mM i 2 (by omega) (by decide)] at r2
      have rs := r_saysAs hl (v := v) (q := M i 1) (w := w) (k := 0) (by omega) (by omega) (by omega) (by decide)
      obtain ⟨s1, s2⟩ := hs v (M i 1) w 0 hv q0.2.1 h1 hp (by decide)
      rw [s1] at rs
      by_cases hx : M i 0 = v
      · by_cases hy : S v (M i 1) w 0 = M i 2
        · simp (disch := first | assumption | omega | decide) only [f_X12_answersHonestly_b2, f_X12_answersHonestly_j47, SM, LI, ↓li_m1, nI_add, pk_mul, nn_sub, nn_m1, nn_div, nn_rem, nn_nz, nn_mod, nJ_l, lN_add, lN_mul, nn_tb1, nI_bt, nn_and, nn_or, nn_xor, nn_shr, nn_1shl, nn_31, il_p, il_n, it_p, it_n, ie_p, ie_n, ie_b, ie_b1, ie_m, ie_mm, it_m, it_m0, il_m0, bI_rZ, Option.bind_some, bd2_some, Nat.add_zero, Nat.zero_add, if_true, if_false, Bool.false_eq_true, eq_self, m6, r0, r1, r2, rs, ahB]
          simp [hx, hy]
        · simp (disch := first | assumption | omega | decide) only [f_X12_answersHonestly_b2, f_X12_answersHonestly_j47, SM, LI, ↓li_m1, nI_add, pk_mul, nn_sub, nn_m1, nn_div, nn_rem, nn_nz, nn_mod, nJ_l, lN_add, lN_mul, nn_tb1, nI_bt, nn_and, nn_or, nn_xor, nn_shr, nn_1shl, nn_31, il_p, il_n, it_p, it_n, ie_p, ie_n, ie_b, ie_b1, ie_m, ie_mm, it_m, it_m0, il_m0, bI_rZ, Option.bind_some, bd2_some, Nat.add_zero, Nat.zero_add, if_true, if_false, Bool.false_eq_true, eq_self, m6, r0, r1, r2, rs, ahB]
          simp [hx, hy]
      · simp (disch := first | assumption | omega | decide) only [f_X12_answersHonestly_b2, f_X12_answersHonestly_j47, SM, LI, ↓li_m1, nI_add, pk_mul, nn_sub, nn_m1, nn_div, nn_rem, nn_nz, nn_mod, nJ_l, lN_add, lN_mul, nn_tb1, nI_bt, nn_and, nn_or, nn_xor, nn_shr, nn_1shl, nn_31, il_p, il_n, it_p, it_n, ie_p, ie_n, ie_b, ie_b1, ie_m, ie_mm, it_m, it_m0, il_m0, bI_rZ, Option.bind_some, bd2_some, Nat.add_zero, Nat.zero_add, if_true, if_false, Bool.false_eq_true, eq_self, m6, r0, r1, r2, rs, ahB]
        simp [hx]
    refine srch (body := fun zz : Int32 => f_X12_answersHonestly_b2 h 113 (nI v) (nI w) zz) (fun j => nI j) (ahB S M v w) n (fun _ => .inl ()) (.inr ()) rfl (by omega) (fun j hj hp => ?_) (fun j hj hp => ?_) ?_
    · rw [rr j hj, hp]
      rfl
    · rw [rr j hj, hp]
      rfl
    · simp (disch := first | assumption | omega | decide) only [f_X12_answersHonestly_b2, f_X12_answersHonestly_j47, SM, LI, ↓li_m1, nI_add, pk_mul, nn_sub, nn_m1, nn_div, nn_rem, nn_nz, nn_mod, nJ_l, lN_add, lN_mul, nn_tb1, nI_bt, nn_and, nn_or, nn_xor, nn_shr, nn_1shl, nn_31, il_p, il_n, it_p, it_n, ie_p, ie_n, ie_b, ie_b1, ie_m, ie_mm, it_m, it_m0, il_m0, bI_rZ, Option.bind_some, bd2_some, Nat.add_zero, Nat.zero_add, if_true, if_false, Bool.false_eq_true, eq_self, m6]
  simp (disch := first | assumption | omega | decide) only [f_X12_answersHonestly, SM, LI, ↓li_m1, nI_add, pk_mul, nn_sub, nn_m1, nn_div, nn_rem, nn_nz, nn_mod, nJ_l, lN_add, lN_mul, nn_tb1, nI_bt, nn_and, nn_or, nn_xor, nn_shr, nn_1shl, nn_31, il_p, il_n, it_p, it_n, ie_p, ie_n, ie_b, ie_b1, ie_m, ie_mm, it_m, it_m0, il_m0, bI_rZ, Option.bind_some, bd2_some, Nat.add_zero, Nat.zero_add, if_true, if_false, Bool.false_eq_true, eq_self, e, anyB_first]
  cases firstB (ahB S M v w) n <;> rfl
