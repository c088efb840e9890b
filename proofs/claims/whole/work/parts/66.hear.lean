/-! ===== what is left, in order ===== -/
/-- al lists the places below n at which p holds -/
def AL (al : Nat → Nat) (p : Nat → Bool) (n : Nat) : Prop := ∀ w, w < n → p w = true → al (cntB p w) = w
theorem cntB_t {p : Nat → Bool} {n : Nat} (h : p n = true) : cntB p (n + 1) = cntB p n + 1 := by
  show cntB p n + (p n).toNat = _
  rw [h]
  rfl
theorem cntB_f {p : Nat → Bool} {n : Nat} (h : p n = false) : cntB p (n + 1) = cntB p n := by
  show cntB p n + (p n).toNat = _
  rw [h]
  rfl
theorem cntB_mono {p : Nat → Bool} {i : Nat} : ∀ {n}, i ≤ n → cntB p i ≤ cntB p n
  | 0, h => by rw [show i = 0 by omega]; exact Nat.le_refl _
  | n + 1, h => by
    rcases Nat.lt_or_ge i (n + 1) with q | q
    · have := cntB_mono (p := p) (i := i) (n := n) (by omega)
      show _ ≤ cntB p n + (p n).toNat
      omega
    · rw [show i = n + 1 by omega]
      exact Nat.le_refl _
theorem cntB_lt {p : Nat → Bool} {w n : Nat} (hw : w < n) (hp : p w = true) : cntB p w < cntB p n := by
  have := cntB_mono (p := p) (i := w + 1) (n := n) hw
  rw [cntB_t hp] at this
  omega
theorem al_at {al : Nat → Nat} {p : Nat → Bool} : ∀ {n}, AL al p n → ∀ j, j < cntB p n → al j < n ∧ p (al j) = true ∧ cntB p (al j) = j
  | 0, _, j, hj => absurd hj (by simp [cntB])
  | n + 1, h, j, hj => by
    have h' : AL al p n := fun w hw hp => h w (by omega) hp
    rcases Nat.lt_or_ge j (cntB p n) with q | q
    · obtain ⟨a1, a2, a3⟩ := al_at h' j q
      exact ⟨by omega, a2, a3⟩
    · cases hp : p n
      · rw [cntB_f hp] at hj
        omega
      · rw [cntB_t hp] at hj
        obtain rfl : j = cntB p n := by omega
        rw [h n (by omega) hp]
        exact ⟨by omega, hp, rfl⟩
theorem al_cnt {al : Nat → Nat} {p q : Nat → Bool} : ∀ {n}, AL al p n → cntB (fun j => q (al j)) (cntB p n) = cntB (fun w => p w && q w) n
  | 0, _ => rfl
  | n + 1, h => by
    have ih := al_cnt (q := q) (n := n) (fun w hw hp => h w (by omega) hp)
    cases hp : p n
    · rw [cntB_f hp, ih, cntB_f (by rw [hp, Bool.false_and])]
    · rw [cntB_t hp]
      show cntB (fun j => q (al j)) (cntB p n) + (q (al (cntB p n))).toNat = cntB (fun w => p w && q w) n + (p n && q n).toNat
      rw [ih, h n (by omega) hp, hp, Bool.true_and]
theorem al_sum {al : Nat → Nat} {p : Nat → Bool} {f : Nat → Nat} : ∀ {n}, AL al p n → sumN (fun j => f (al j)) (cntB p n) = sumN (fun w => if p w = true then f w else 0) n
  | 0, _ => rfl
  | n + 1, h => by
    have ih := al_sum (f := f) (n := n) (fun w hw hp => h w (by omega) hp)
    show _ = sumN (fun w => if p w = true then f w else 0) n + (if p n = true then f n else 0)
    cases hp : p n
    · rw [cntB_f hp, ih]
      rfl
    · rw [cntB_t hp]
      show sumN (fun j => f (al j)) (cntB p n) + f (al (cntB p n)) = _
      rw [ih, h n (by omega) hp]
      rfl
theorem al_or {al : Nat → Nat} {p : Nat → Bool} {f : Nat → Nat} : ∀ {n}, AL al p n → orN (fun j => f (al j)) (cntB p n) = orN (fun w => if p w = true then f w else 0) n
  | 0, _ => rfl
  | n + 1, h => by
    have ih := al_or (f := f) (n := n) (fun w hw hp => h w (by omega) hp)
    show _ = orN (fun w => if p w = true then f w else 0) n ||| (if p n = true then f n else 0)
    cases hp : p n
    · rw [cntB_f hp, ih]
      exact (Nat.or_zero _).symm
    · rw [cntB_t hp]
      show orN (fun j => f (al j)) (cntB p n) ||| f (al (cntB p n)) = _
      rw [ih, h n (by omega) hp]
      rfl
theorem al_any {al : Nat → Nat} {p q : Nat → Bool} {n : Nat} (h : AL al p n) : anyB (fun j => q (al j)) (cntB p n) = anyB (fun w => p w && q w) n := by
  rw [Bool.eq_iff_iff, anyB_iff, anyB_iff]
  constructor
  · rintro ⟨j, h1, h2⟩
    obtain ⟨a1, a2, a3⟩ := al_at h j h1
    exact ⟨al j, a1, by rw [a2, h2]; rfl⟩
  · rintro ⟨w, h1, h2⟩
    rw [Bool.and_eq_true] at h2
    exact ⟨cntB p w, cntB_lt h1 h2.1, by rw [h w h1 h2.1]; exact h2.2⟩
/-- the j-th place -/
def alN (p : Nat → Bool) (n j : Nat) : Nat := match firstB (fun w => p w && cntB p w == j) n with
  | some w => w
  | none => 0
theorem al_N (p : Nat → Bool) (n : Nat) : AL (alN p n) p n := fun w hw hp => by
  unfold alN
  cases hf : firstB (fun x => p x && cntB p x == cntB p w) n with
  | some x =>
    obtain ⟨h1, h2, -⟩ := firstB_s.mp hf
    simp only [Bool.and_eq_true, beq_iff_eq] at h2
    rcases Nat.lt_trichotomy x w with q | q | q
    · have := cntB_lt q h2.1
      omega
    · exact q
    · have := cntB_lt q hp
      omega
  | none =>
    have := firstB_n.mp hf w hw
    simp [hp] at this
theorem nth_ex {p : Nat → Bool} {n j : Nat} (hj : j < cntB p n) : ∃ w, w < n ∧ p w = true ∧ cntB p w = j :=
  ⟨alN p n j, al_at (al_N p n) j hj⟩
/-! the kinds that fit, of a witness, behind the first k answers -/
def fcN (S : Nat → Nat → Nat → Nat → Nat) (M : Nat → Nat → Nat) (w u : Nat) : Nat → Nat
  | 0 => 15
  | k + 1 => if M k 0 = u then fcN S M w u k &&& kfN S u (M k 1) w (M k 2) else fcN S M w u k
theorem fcN_lt (S : Nat → Nat → Nat → Nat → Nat) (M : Nat → Nat → Nat) (w u : Nat) : ∀ k, fcN S M w u k < 16
  | 0 => by
    show 15 < 16
    decide
  | k + 1 => by
    have := fcN_lt S M w u k
    unfold fcN
    split
    · exact Nat.lt_of_le_of_lt Nat.and_le_left this
    · exact this
theorem pk4_15 {S : Nat → Nat → Nat → Nat → Nat} {M : Nat → Nat → Nat} {w : Nat} : pk4 (fun u => fcN S M w u 0) = 65535 := by
  show 16 * (16 * (16 * 15 + 15) + 15) + 15 = 65535
  decide
theorem tb_ones {n k : Nat} (hk : k < n) : (2 ^ n - 1).testBit k = true := by
  rw [Nat.testBit_two_pow_sub_one]
  exact decide_eq_true hk
theorem fb_fc {A : Nat → Nat} {S : Nat → Nat → Nat → Nat → Nat} {M : Nat → Nat → Nat} {n v w : Nat} : ∀ k, k ≤ n → fbN A S M (2 ^ n - 1) v w k = fcN S M w v k &&& mayN A v
  | 0, _ => by
    show mayN A v = 15 &&& mayN A v
    rw [Nat.and_comm, and15, Nat.mod_eq_of_lt (mayN_lt A v)]
  | k + 1, h => by
    have ih := fb_fc (A := A) (S := S) (M := M) (n := n) (v := v) (w := w) k (by omega)
    show (if (2 ^ n - 1).testBit k = true ∧ M k 0 = v then fbN A S M (2 ^ n - 1) v w k &&& kfN S v (M k 1) w (M k 2) else fbN A S M (2 ^ n - 1) v w k) = (if M k 0 = v then fcN S M w v k &&& kfN S v (M k 1) w (M k 2) else fcN S M w v k) &&& mayN A v
    rw [tb_ones (show k < n by omega), ih]
    by_cases hx : M k 0 = v
    · rw [if_pos ⟨rfl, hx⟩, if_pos hx, Nat.and_assoc, Nat.and_assoc, Nat.and_comm (mayN A v)]
    · rw [if_neg (fun e => hx e.2), if_neg hx]
/-- left behind the first k answers -/
def lvB (A : Nat → Nat) (P : Nat → Bool) (S : Nat → Nat → Nat → Nat → Nat) (M : Nat → Nat → Nat) (k w : Nat) : Bool := P w && allB (fun v => fcN S M w v k &&& mayN A v != 0) (A 4)
theorem lv_lf {A : Nat → Nat} {P : Nat → Bool} {S : Nat → Nat → Nat → Nat → Nat} {M : Nat → Nat → Nat} {n w : Nat} : lvB A P S M n w = lfB A P (fun v w => ftN A P S M (2 ^ n - 1) n v w) w := by
  unfold lvB lfB ftN
  cases hp : P w
  · rfl
  · rw [Bool.true_and, Bool.true_and]
    refine allB_congr (fun v _ => ?_)
    show _ = ((if P w = true then fbN A S M (2 ^ n - 1) v w n else 0) != 0)
    rw [if_pos hp, fb_fc n (Nat.le_refl n)]
theorem may_ne {A : Nat → Nat} (hw : WF A) {v : Nat} (hv : v < A 4) : mayN A v ≠ 0 := by
  intro h0
  have hs := (hw.2.2.2.2.2 v hv).2.1
  have : ∀ k, k < 4 → A (76 + 6 * v + k) = 0 := fun k hk => by
    have hb : (mayN A v).testBit k = false := by rw [h0, Nat.zero_testBit]
    unfold mayN at hb
    rw [orN_bit] at hb
    have := anyB_f.mp hb k hk
    by_cases hx : A (76 + 6 * v + k) = 0
    · exact hx
    · rw [if_neg hx, Nat.testBit_two_pow] at this
      simp at this
  rw [show sumN (fun k => A (76 + 6 * v + k)) 4 = 0 + A (76 + 6 * v + 0) + A (76 + 6 * v + 1) + A (76 + 6 * v + 2) + A (76 + 6 * v + 3) from rfl, this 0 (by decide), this 1 (by decide), this 2 (by decide), this 3 (by decide)] at hs
  omega
theorem lv_0 {A : Nat → Nat} (hw : WF A) {P : Nat → Bool} {S : Nat → Nat → Nat → Nat → Nat} {M : Nat → Nat → Nat} {w : Nat} : lvB A P S M 0 w = P w := by
  unfold lvB
  rw [show allB (fun v => fcN S M w v 0 &&& mayN A v != 0) (A 4) = true from allB_iff.mpr (fun v hv => by
    show (15 &&& mayN A v != 0) = true
    rw [Nat.and_comm, and15, Nat.mod_eq_of_lt (mayN_lt A v)]
    simp [may_ne hw hv]), Bool.and_true]
theorem lv_s {A : Nat → Nat} {P : Nat → Bool} {S : Nat → Nat → Nat → Nat → Nat} {M : Nat → Nat → Nat} {k w : Nat} (hm : M k 0 < A 4) : lvB A P S M (k + 1) w = (lvB A P S M k w && (fcN S M w (M k 0) (k + 1) &&& mayN A (M k 0) != 0)) := by
  unfold lvB
  rw [Bool.and_assoc]
  refine congrArg (P w && ·) ?_
  rw [Bool.eq_iff_iff, Bool.and_eq_true, allB_iff, allB_iff]
  have st : ∀ v, ¬ M k 0 = v → fcN S M w v (k + 1) = fcN S M w v k := fun v hv => by
    show (if M k 0 = v then _ else _) = _
    rw [if_neg hv]
  constructor
  · intro h
    refine ⟨fun v hv => ?_, h _ hm⟩
    by_cases hx : M k 0 = v
    · have := h v hv
      simp only [bne_iff_ne, ne_eq] at this ⊢
      intro e
      refine this ?_
      show (if M k 0 = v then fcN S M w v k &&& kfN S v (M k 1) w (M k 2) else fcN S M w v k) &&& mayN A v = 0
      rw [if_pos hx, Nat.and_assoc, Nat.and_comm (kfN _ _ _ _ _), ← Nat.and_assoc, e, Nat.zero_and]
    · have := h v hv
      simp only [st v hx] at this
      exact this
  · rintro ⟨h1, h2⟩ v hv
    by_cases hx : M k 0 = v
    · rw [← hx]
      exact h2
    · have := h1 v hv
      simp only [st v hx]
      exact this
/-- the minutes at m -/
def MN (h : aH) (m n d : Nat) (M : Nat → Nat → Nat) : Prop := h.2.1 m 4 = nI n ∧ h.2.1 m 5 = nI d ∧ ∀ k, k < n → h.2.1 (m + 1) k = nI (M k 0) ∧ h.2.1 (m + 2) k = nI (M k 1) ∧ h.2.1 (m + 3) k = nI (M k 2) ∧ h.2.1 (m + 4) k = nI (M k 3)
/-- a hearing's rows behind the first k answers -/
def HR (h : aH) (H : Nat) (A : Nat → Nat) (P : Nat → Bool) (S : Nat → Nat → Nat → Nat → Nat) (M : Nat → Nat → Nat) (k : Nat) : Prop :=
  h.2.1 H 5 = nI (cntB (lvB A P S M k) (A 2)) ∧ h.2.1 H 6 = nI (orN (fun i => 2 ^ M i 1) k) ∧ (∀ w, w < A 2 → P w = true → h.2.1 (H + 6) w = nI (pk4 (fun u => fcN S M w u k))) ∧ ∀ w, w < A 2 → lvB A P S M k w = true → h.2.1 (H + 7) (cntB (lvB A P S M k) w) = nI w
theorem hr_al {h : aH} {H : Nat} {A : Nat → Nat} {P : Nat → Bool} {S : Nat → Nat → Nat → Nat → Nat} {M : Nat → Nat → Nat} {k : Nat} (hr : HR h H A P S M k) {j : Nat} (hj : j < cntB (lvB A P S M k) (A 2)) : h.2.1 (H + 7) j = nI (alN (lvB A P S M k) (A 2) j) ∧ alN (lvB A P S M k) (A 2) j < A 2 ∧ lvB A P S M k (alN (lvB A P S M k) (A 2) j) = true := by
  obtain ⟨h1, h2, h3⟩ := al_at (al_N (lvB A P S M k) (A 2)) j hj
  have := hr.2.2.2 _ h1 h2
  rw [h3] at this
  exact ⟨this, h1, h2⟩
theorem lv_P {A : Nat → Nat} {P : Nat → Bool} {S : Nat → Nat → Nat → Nat → Nat} {M : Nat → Nat → Nat} {k w : Nat} (h : lvB A P S M k w = true) : P w = true := by
  unfold lvB at h
  rw [Bool.and_eq_true] at h
  exact h.1
theorem put_bit {M : Nat → Nat → Nat} {k q : Nat} : (orN (fun i => 2 ^ M i 1) k).testBit q = putN M k q := by
  rw [orN_bit]
  refine anyB_congr (fun i _ => ?_)
  rw [Nat.testBit_two_pow]
  by_cases hx : M i 1 = q <;> simp [hx]
theorem put_lt {M : Nat → Nat → Nat} {k : Nat} (h : ∀ i, i < k → M i 1 < 12) : orN (fun i => 2 ^ M i 1) k < 4096 := orN_lt (k := 12) (fun i hi => Nat.pow_lt_pow_right (by decide) (h i hi))
theorem k_left52 {h : aH} {c : Nat} (hs : CS h c) {A : Nat → Nat} {P : Nat → Bool} {Q : Nat → Nat → Bool} {S : Nat → Nat → Nat → Nat → Nat} (hc : CC h c A P Q S) (hw : WF A) (hl : LAY h) (hf : h.2.2.2 52 4 = some c) {n : Nat} {M : Nat → Nat → Nat} (hfit : ∀ w, w < A 2 → P w = true → h.2.1 58 w = nI (pk4 (fun u => fcN S M w u n))) {v w : Nat} (hv : v < A 4) (h1 : w < A 2) (hp : P w = true) : f_X3_kindsLeft h 52 (nI v) (nI w) = some (nI (fcN S M w v n &&& mayN A v)) := by
  obtain ⟨b0, b1, b2l, b2, b3, b4⟩ := wf_b hw
  have e := hfit w h1 hp
  have em := hc.1.2.2.2.2.2.2
  have f4 : ∀ u, u < 4 → fcN S M w u n < 16 := fun u _ => fcN_lt S M w u n
  have m4 : ∀ u, u < 4 → myN A u < 16 := fun u _ => myN_lt u
  have a4 : ∀ u, u < 4 → fcN S M w u n &&& myN A u < 16 := fun u hu => Nat.lt_of_le_of_lt Nat.and_le_left (f4 u hu)
  have ea := pk4_and f4 m4
  have l1 := pk4_lt a4
  have eb := pk4_at a4 (show v < 4 by omega)
  simp (disch := first | assumption | omega | decide | ((repeat first | apply lyI | apply lyJ | apply lywI | apply lywJ | apply csI | apply csJ | apply cswI | apply cswJ); assumption)) only [f_X3_kindsLeft, SH52, SC, LI, ↓li_m1, nI_add, pk_mul, nn_sub, nn_m1, nn_div, nn_rem, nn_nz, nn_mod, nJ_l, lN_add, lN_mul, nn_tb1, nI_bt, nn_and, nn_or, nn_xor, nn_shr, nn_1shl, nn_31, il_p, il_n, it_p, it_n, ie_p, ie_n, ie_b, ie_b1, ie_m, ie_mm, it_m, it_m0, il_m0, bI_rZ, Option.bind_some, bd2_some, Nat.add_zero, Nat.zero_add, if_true, if_false, Bool.false_eq_true, eq_self, hI_R, hJ_R, hf, e, em, ea, eb]
  show some (nI (fcN S M w v n &&& myN A v)) = _
  unfold myN
  rw [if_pos hv]
theorem k_agree52 {h : aH} {c : Nat} (hs : CS h c) {A : Nat → Nat} {P : Nat → Bool} {Q : Nat → Nat → Bool} {S : Nat → Nat → Nat → Nat → Nat} (hc : CC h c A P Q S) (hw : WF A) (hl : LAY h) (hf : h.2.2.2 52 4 = some c) {n d k : Nat} {M : Nat → Nat → Nat} (hm : MN h 53 n d M) (hk : k < n) (mk : M k 0 < A 4 ∧ M k 1 < A 3 ∧ M k 2 < 2 * A 3) (kn : n ≤ 12) {w : Nat} (h1 : w < A 2) (hp : P w = true) : f_X3_agreeing h 52 (nI k) (nI w) = some (nI (pk4 (fun u => if u = M k 0 then kfN S (M k 0) (M k 1) w (M k 2) else 15))) := by
  obtain ⟨b0, b1, b2l, b2, b3, b4⟩ := wf_b hw
  obtain ⟨e0, e1, e2, -⟩ := hm.2.2 k hk
  have r1 := c_packed hs hc hw mk.1 mk.2.1 h1 hp
  have sb := (hc.2.2.2.2.2.2 _ _ w mk.1 mk.2.1 h1 hp).2
  have r2 := c_kinds (h := h) (s := S (M k 0) (M k 1) w) (fun i hi => by have := sb i hi; omega) (a := M k 2) (by omega)
  have kl := kfN_lt S (M k 0) (M k 1) w (M k 2)
  have r3 := mask4 (M k 0) (by omega) _ kl
  unfold kfN at r3 kl ⊢
  simp (disch := first | assumption | omega | decide | ((repeat first | apply lyI | apply lyJ | apply lywI | apply lywJ | apply csI | apply csJ | apply cswI | apply cswJ); assumption)) only [f_X3_agreeing, SH52, SC, LI, ↓li_m1, nI_add, pk_mul, nn_sub, nn_m1, nn_div, nn_rem, nn_nz, nn_mod, nJ_l, lN_add, lN_mul, nn_tb1, nI_bt, nn_shr, nn_1shl, nn_31, il_p, il_n, it_p, it_n, ie_p, ie_n, ie_b, ie_b1, ie_m, ie_mm, it_m, it_m0, il_m0, bI_rZ, Option.bind_some, bd2_some, Nat.add_zero, Nat.zero_add, if_true, if_false, Bool.false_eq_true, eq_self, hI_R, hJ_R, hf, e0, e1, e2, r1, r2]
  rw [show nI (M k 0 * 4) &&& nI 31 = nI (M k 0 * 4) by rw [nn_and, nn_31 (by omega)]]
  rw [r3]
theorem k_nar1_52 {h : aH} {c : Nat} (hs : CS h c) {A : Nat → Nat} {P : Nat → Bool} {Q : Nat → Nat → Bool} {S : Nat → Nat → Nat → Nat → Nat} (hc : CC h c A P Q S) (hw : WF A) (hl : LAY h) (hf : h.2.2.2 52 4 = some c) {n d k : Nat} {M : Nat → Nat → Nat} (hm : MN h 53 n d M) (hk : k < n) (mk : M k 0 < A 4 ∧ M k 1 < A 3 ∧ M k 2 < 2 * A 3) (kn : n ≤ 12) (hfit : ∀ w, w < A 2 → P w = true → h.2.1 58 w = nI (pk4 (fun u => fcN S M w u k))) : ∃ h', f_X3_narrow_l22 52 (nI k) (nI 0) h = some h' ∧ FR h h' [58] [] [] [] ∧ ∀ w, w < A 2 → P w = true → h'.2.1 58 w = nI (pk4 (fun u => fcN S M w u (k + 1))) := by
  obtain ⟨b0, b1, b2l, b2, b3, b4⟩ := wf_b hw
  refine forI (fun j (s : Int32 × aH) => ∃ g, s = (nI j, g) ∧ FR h g [58] [] [] [] ∧ (∀ w, w < j → P w = true → g.2.1 58 w = nI (pk4 (fun u => fcN S M w u (k + 1)))) ∧ ∀ w, j ≤ w → g.2.1 58 w = h.2.1 58 w) _ (A 2) (by omega) ⟨h, rfl, FR.rf, fun w hw => absurd hw (by omega), fun _ _ => rfl⟩ ?_ ?_
  · rintro j _ hj ⟨g, rfl, fg, i1, i2⟩
    have lg := fg.lay hl
    have sg := cs_fr fg hs
    have cg := cc_fr fg (by decide) hs hc
    have hfg : g.2.2.2 52 4 = some c := by rw [fg.2.1]; exact hf
    have mg : MN g 53 n d M := by
      unfold MN
      rw [fg.I 53 (by decide) (by decide) (by decide), fg.I (53 + 1) (by decide) (by decide) (by decide), fg.I (53 + 2) (by decide) (by decide) (by decide), fg.I (53 + 3) (by decide) (by decide) (by decide), fg.I (53 + 4) (by decide) (by decide) (by decide)]
      exact hm
    have ew := cg.1.2.2.1
    have r1 := c_canBe sg cg hw hj
    rcases (Bool.eq_false_or_eq_true (P j)).symm with hp | hp
    · rw [hp] at r1
      refine ⟨(nI (j + 1), g), by simp (disch := first | assumption | omega | decide | ((repeat first | apply lyI | apply lyJ | apply lywI | apply lywJ | apply csI | apply csJ | apply cswI | apply cswJ); assumption)) only [f_X3_narrow_b22, f_X3_narrow_j59, f_X3_narrow_j114, SH52, SC, LI, ↓li_m1, nI_add, pk_mul, nn_sub, nn_m1, nn_div, nn_rem, nn_nz, nn_mod, nJ_l, lN_add, lN_mul, nn_tb1, nI_bt, nn_and, nn_or, nn_xor, nn_shr, nn_1shl, nn_31, il_p, il_n, it_p, it_n, ie_p, ie_n, ie_b, ie_b1, ie_m, ie_mm, it_m, it_m0, il_m0, bI_rZ, Option.bind_some, bd2_some, Nat.add_zero, Nat.zero_add, if_true, if_false, Bool.false_eq_true, eq_self, hI_R, hJ_R, hfg, ew, r1, bI_f], g, rfl, fg, fun w hw hpw => ?_, fun w hw => i2 w (by omega)⟩
      rcases Nat.lt_or_ge w j with q | q
      · exact i1 w q hpw
      · rw [show w = j by omega, hp] at hpw
        cases hpw
    · rw [hp] at r1
      have r2 := k_agree52 sg cg hw lg hfg mg hk mk kn hj hp
      have e := (i2 j (Nat.le_refl j)).trans (hfit j hj hp)
      have ea := pk4_and (f := fun u => fcN S M j u k) (g := fun u => if u = M k 0 then kfN S (M k 0) (M k 1) j (M k 2) else 15) (fun u _ => fcN_lt S M j u k) (fun u _ => by
        show (if u = M k 0 then _ else _) < 16
        split
        · exact kfN_lt _ _ _ _ _
        · decide)
      have eb : pk4 (fun u => fcN S M j u k &&& (if u = M k 0 then kfN S (M k 0) (M k 1) j (M k 2) else 15)) = pk4 (fun u => fcN S M j u (k + 1)) := by
        refine congrArg pk4 (funext fun u => ?_)
        show _ = (if M k 0 = u then fcN S M j u k &&& kfN S u (M k 1) j (M k 2) else fcN S M j u k)
        by_cases hx : u = M k 0
        · rw [if_pos hx, if_pos hx.symm, hx]
        · rw [if_neg hx, if_neg (fun e => hx e.symm), and15, Nat.mod_eq_of_lt (fcN_lt S M j u k)]
      rw [eb] at ea
      refine ⟨(nI (j + 1), hI g 58 j (nI (pk4 (fun u => fcN S M j u (k + 1))))), by simp (disch := first | assumption | omega | decide | ((repeat first | apply lyI | apply lyJ | apply lywI | apply lywJ | apply csI | apply csJ | apply cswI | apply cswJ); assumption)) only [f_X3_narrow_b22, f_X3_narrow_j59, f_X3_narrow_j114, SH52, SC, LI, ↓li_m1, nI_add, pk_mul, nn_sub, nn_m1, nn_div, nn_rem, nn_nz, nn_mod, nJ_l, lN_add, lN_mul, nn_tb1, nI_bt, nn_and, nn_or, nn_xor, nn_shr, nn_1shl, nn_31, il_p, il_n, it_p, it_n, ie_p, ie_n, ie_b, ie_b1, ie_m, ie_mm, it_m, it_m0, il_m0, bI_rZ, Option.bind_some, bd2_some, Nat.add_zero, Nat.zero_add, if_true, if_false, Bool.false_eq_true, eq_self, hI_R, hJ_R, hfg, ew, r1, bI_t, r2, e, ea], _, rfl, fg.tr (FR.hI (by decide) (by decide) (by decide)), fun w hw hpw => ?_, fun w hw => ?_⟩
      · rw [rI_hI]
        by_cases hx : w = j
        · rw [if_pos ⟨rfl, hx⟩, hx]
        · rw [if_neg (fun e => hx e.2)]
          exact i1 w (by omega) hpw
      · rw [rI_hI, if_neg (fun e => by omega)]
        exact i2 w (by omega)
  · rintro _ ⟨g, rfl, fg, i1, i2⟩
    have lg := fg.lay hl
    have sg := cs_fr fg hs
    have cg := cc_fr fg (by decide) hs hc
    have hfg : g.2.2.2 52 4 = some c := by rw [fg.2.1]; exact hf
    have ew := cg.1.2.2.1
    exact ⟨g, by simp (disch := first | assumption | omega | decide | ((repeat first | apply lyI | apply lyJ | apply lywI | apply lywJ | apply csI | apply csJ | apply cswI | apply cswJ); assumption)) only [f_X3_narrow_b22, f_X3_narrow_j59, f_X3_narrow_j114, SH52, SC, LI, ↓li_m1, nI_add, pk_mul, nn_sub, nn_m1, nn_div, nn_rem, nn_nz, nn_mod, nJ_l, lN_add, lN_mul, nn_tb1, nI_bt, nn_and, nn_or, nn_xor, nn_shr, nn_1shl, nn_31, il_p, il_n, it_p, it_n, ie_p, ie_n, ie_b, ie_b1, ie_m, ie_mm, it_m, it_m0, il_m0, bI_rZ, Option.bind_some, bd2_some, Nat.add_zero, Nat.zero_add, if_true, if_false, Bool.false_eq_true, eq_self, hI_R, hJ_R, hfg, ew], fg, i1⟩
theorem k_nar2_52 {h : aH} {c : Nat} (hs : CS h c) {A : Nat → Nat} {P : Nat → Bool} {Q : Nat → Nat → Bool} {S : Nat → Nat → Nat → Nat → Nat} (hc : CC h c A P Q S) (hw : WF A) (hl : LAY h) (hf : h.2.2.2 52 4 = some c) {n d k : Nat} {M : Nat → Nat → Nat} (hm : MN h 53 n d M) (hk : k < n) (mk : M k 0 < A 4) (kn : n ≤ 12) (hfit : ∀ w, w < A 2 → P w = true → h.2.1 58 w = nI (pk4 (fun u => fcN S M w u (k + 1)))) (hv : h.2.1 52 5 = nI (cntB (lvB A P S M k) (A 2))) (ha : ∀ j, j < cntB (lvB A P S M k) (A 2) → h.2.1 59 j = nI (alN (lvB A P S M k) (A 2) j)) : ∃ e, f_X3_narrow_l69 52 (nI k) (nI 0) (nI 0) h = some e ∧ ∃ h', e = (nI (cntB (lvB A P S M (k + 1)) (A 2)), h') ∧ FR h h' [59] [] [] [] ∧ ∀ w, w < A 2 → lvB A P S M (k + 1) w = true → h'.2.1 59 (cntB (lvB A P S M (k + 1)) w) = nI w := by
  obtain ⟨b0, b1, b2l, b2, b3, b4⟩ := wf_b hw
  have cle := cntB_le (lvB A P S M k) (A 2)
  have an := al_N (lvB A P S M k) (A 2)
  let q : Nat → Bool := fun w => fcN S M w (M k 0) (k + 1) &&& mayN A (M k 0) != 0
  let qa : Nat → Bool := fun j => q (alN (lvB A P S M k) (A 2) j)
  have cq : ∀ w, w ≤ A 2 → cntB qa (cntB (lvB A P S M k) w) = cntB (lvB A P S M (k + 1)) w := fun w hw => by
    have := al_cnt (q := q) (n := w) (p := lvB A P S M k) (al := alN (lvB A P S M k) (A 2)) (fun x hx hp => an x (by omega) hp)
    rw [show cntB qa (cntB (lvB A P S M k) w) = cntB (fun j => q (alN (lvB A P S M k) (A 2) j)) (cntB (lvB A P S M k) w) from rfl, this]
    exact cntB_congr (fun x _ => (lv_s mk).symm)
  have e : ∃ e, f_X3_narrow_l69 52 (nI k) (nI 0) (nI 0) h = some e ∧ ∃ h', e = (nI (cntB qa (cntB (lvB A P S M k) (A 2))), h') ∧ FR h h' [59] [] [] [] ∧ ∀ j, j < cntB (lvB A P S M k) (A 2) → qa j = true → h'.2.1 59 (cntB qa j) = nI (alN (lvB A P S M k) (A 2) j) := by
    refine forI (fun i (s : Int32 × Int32 × aH) => ∃ g, s = (nI (cntB qa i), nI i, g) ∧ FR h g [59] [] [] [] ∧ (∀ j, j < i → qa j = true → g.2.1 59 (cntB qa j) = nI (alN (lvB A P S M k) (A 2) j)) ∧ ∀ j, i ≤ j → g.2.1 59 j = h.2.1 59 j) _ (cntB (lvB A P S M k) (A 2)) (by omega) ⟨h, rfl, FR.rf, fun j hj => absurd hj (by omega), fun _ _ => rfl⟩ ?_ ?_
    · rintro i _ hi ⟨g, rfl, fg, i1, i2⟩
      have lg := fg.lay hl
      have sg := cs_fr fg hs
      have cg := cc_fr fg (by decide) hs hc
      have hfg : g.2.2.2 52 4 = some c := by rw [fg.2.1]; exact hf
      have gv : g.2.1 52 5 = nI (cntB (lvB A P S M k) (A 2)) := by rw [fg.I 52 (by decide) (by decide) (by decide)]; exact hv
      have gm : g.2.1 54 k = nI (M k 0) := by rw [fg.I 54 (by decide) (by decide) (by decide)]; exact (hm.2.2 k hk).1
      have gfit : ∀ w, w < A 2 → P w = true → g.2.1 58 w = nI (pk4 (fun u => fcN S M w u (k + 1))) := by rw [fg.I 58 (by decide) (by decide) (by decide)]; exact hfit
      obtain ⟨a1, a2, a3⟩ := al_at an i hi
      have ga := (i2 i (Nat.le_refl i)).trans (ha i hi)
      have r := k_left52 sg cg hw lg hfg gfit mk a1 (lv_P a2)
      have f4 := fcN_lt S M (alN (lvB A P S M k) (A 2) i) (M k 0) (k + 1)
      have f5 : fcN S M (alN (lvB A P S M k) (A 2) i) (M k 0) (k + 1) &&& mayN A (M k 0) < 16 := Nat.lt_of_le_of_lt Nat.and_le_left f4
      have cqi := cntB_le qa i
      by_cases hx : fcN S M (alN (lvB A P S M k) (A 2) i) (M k 0) (k + 1) &&& mayN A (M k 0) = 0
      · have hq : qa i = false := by
          show (_ != 0) = false
          rw [hx]
          rfl
        refine ⟨(nI (cntB qa (i + 1)), nI (i + 1), g), by simp (disch := first | assumption | omega | decide | ((repeat first | apply lyI | apply lyJ | apply lywI | apply lywJ | apply csI | apply csJ | apply cswI | apply cswJ); assumption)) only [f_X3_narrow_b69, f_X3_narrow_j59, f_X3_narrow_j114, SH52, SC, LI, ↓li_m1, nI_add, pk_mul, nn_sub, nn_m1, nn_div, nn_rem, nn_nz, nn_mod, nJ_l, lN_add, lN_mul, nn_tb1, nI_bt, nn_and, nn_or, nn_xor, nn_shr, nn_1shl, nn_31, il_p, il_n, it_p, it_n, ie_p, ie_n, ie_b, ie_b1, ie_m, ie_mm, it_m, it_m0, il_m0, bI_rZ, Option.bind_some, bd2_some, Nat.add_zero, Nat.zero_add, if_true, if_false, Bool.false_eq_true, eq_self, hI_R, hJ_R, gv, gm, ga, r, cntB_f hq], g, rfl, fg, fun j hj hqj => ?_, fun j hj => i2 j (by omega)⟩
        rcases Nat.lt_or_ge j i with u | u
        · exact i1 j u hqj
        · rw [show j = i by omega, hq] at hqj
          cases hqj
      · have hq : qa i = true := by
          show (_ != 0) = true
          simpa using hx
        refine ⟨(nI (cntB qa (i + 1)), nI (i + 1), hI g 59 (cntB qa i) (nI (alN (lvB A P S M k) (A 2) i))), by simp (disch := first | assumption | omega | decide | ((repeat first | apply lyI | apply lyJ | apply lywI | apply lywJ | apply csI | apply csJ | apply cswI | apply cswJ); assumption)) only [f_X3_narrow_b69, f_X3_narrow_j59, f_X3_narrow_j114, SH52, SC, LI, ↓li_m1, nI_add, pk_mul, nn_sub, nn_m1, nn_div, nn_rem, nn_nz, nn_mod, nJ_l, lN_add, lN_mul, nn_tb1, nI_bt, nn_and, nn_or, nn_xor, nn_shr, nn_1shl, nn_31, il_p, il_n, it_p, it_n, ie_p, ie_n, ie_b, ie_b1, ie_m, ie_mm, it_m, it_m0, il_m0, bI_rZ, Option.bind_some, bd2_some, Nat.add_zero, Nat.zero_add, if_true, if_false, Bool.false_eq_true, eq_self, hI_R, hJ_R, gv, gm, ga, r, cntB_t hq], _, rfl, fg.tr (FR.hI (by decide) (by decide) (by decide)), fun j hj hqj => ?_, fun j hj => ?_⟩
        · rw [rI_hI]
          rcases Nat.lt_or_ge j i with u | u
          · have := cntB_lt u hqj
            rw [if_neg (fun e => by omega)]
            exact i1 j u hqj
          · rw [show j = i by omega, if_pos ⟨rfl, rfl⟩]
        · rw [rI_hI, if_neg (fun e => by omega)]
          exact i2 j (by omega)
    · rintro _ ⟨g, rfl, fg, i1, i2⟩
      have lg := fg.lay hl
      have gv : g.2.1 52 5 = nI (cntB (lvB A P S M k) (A 2)) := by rw [fg.I 52 (by decide) (by decide) (by decide)]; exact hv
      exact ⟨_, by simp (disch := first | assumption | omega | decide | ((repeat first | apply lyI | apply lyJ | apply lywI | apply lywJ | apply csI | apply csJ | apply cswI | apply cswJ); assumption)) only [f_X3_narrow_b69, f_X3_narrow_j59, f_X3_narrow_j114, SH52, SC, LI, ↓li_m1, nI_add, pk_mul, nn_sub, nn_m1, nn_div, nn_rem, nn_nz, nn_mod, nJ_l, lN_add, lN_mul, nn_tb1, nI_bt, nn_and, nn_or, nn_xor, nn_shr, nn_1shl, nn_31, il_p, il_n, it_p, it_n, ie_p, ie_n, ie_b, ie_b1, ie_m, ie_mm, it_m, it_m0, il_m0, bI_rZ, Option.bind_some, bd2_some, Nat.add_zero, Nat.zero_add, if_true, if_false, Bool.false_eq_true, eq_self, hI_R, hJ_R, gv]; try rfl, g, rfl, fg, i1⟩
  obtain ⟨_, e1, h', rfl, fh, hj⟩ := e
  refine ⟨_, e1, h', by rw [cq _ (Nat.le_refl _)], fh, fun w hw hlw => ?_⟩
  have hlw' := hlw
  rw [lv_s mk, Bool.and_eq_true] at hlw'
  have := hj (cntB (lvB A P S M k) w) (cntB_lt hw hlw'.1) (by
    show q (alN (lvB A P S M k) (A 2) (cntB (lvB A P S M k) w)) = true
    rw [an w hw hlw'.1]
    exact hlw'.2)
  rw [cq w (by omega), an w hw hlw'.1] at this
  exact this
theorem k_narrow52 {h : aH} {c : Nat} (hs : CS h c) {A : Nat → Nat} {P : Nat → Bool} {Q : Nat → Nat → Bool} {S : Nat → Nat → Nat → Nat → Nat} (hc : CC h c A P Q S) (hw : WF A) (hl : LAY h) (hf : h.2.2.2 52 4 = some c) {n d k : Nat} {M : Nat → Nat → Nat} (hm : MN h 53 n d M) (hk : k < n) (mw : MW A n d M) (hr : HR h 52 A P S M k) : ∃ h', f_X3_narrow h 52 (nI k) = some h' ∧ FR h h' [52, 58, 59] [] [] [] ∧ HR h' 52 A P S M (k + 1) := by
  obtain ⟨b0, b1, b2l, b2, b3, b4⟩ := wf_b hw
  obtain ⟨kn, -, mk, -⟩ := mw
  have mkk := mk k hk
  have e1 : h.2.1 55 k = nI (M k 1) := (hm.2.2 k hk).2.1
  have hv : h.2.1 52 5 = nI (cntB (lvB A P S M k) (A 2)) := hr.1
  have hp : h.2.1 52 6 = nI (orN (fun i => 2 ^ M i 1) k) := hr.2.1
  let h1 := hI h 52 6 (nI (orN (fun i => 2 ^ M i 1) (k + 1)))
  have f1 : FR h h1 [52, 58, 59] [] [] [] := FR.hI (by decide) (by decide) (by decide)
  have l1 : LAY h1 := hl
  have s1 : CS h1 c := hs
  have c1 := cc_fr f1 (by decide) hs hc
  have eo : orN (fun i => 2 ^ M i 1) k ||| 2 ^ M k 1 = orN (fun i => 2 ^ M i 1) (k + 1) := rfl
  obtain ⟨h2, e2, f2, g2⟩ := k_nar1_52 s1 c1 hw l1 hf (h := h1) hm hk ⟨mkk.1, mkk.2.1, mkk.2.2.1⟩ kn hr.2.2.1
  have e2' : f_X3_narrow_l22 52 (nI k) (nI 0) (hI h 52 6 (nI (orN (fun i => 2 ^ M i 1) (k + 1)))) = some h2 := e2
  have l2 := f2.lay l1
  have v2 : h2.2.1 52 5 = nI (cntB (lvB A P S M k) (A 2)) := by rw [f2.I 52 (by decide) (by decide) (by decide)]; exact hv
  have m2 : MN h2 53 n d M := by
    unfold MN
    rw [f2.I 53 (by decide) (by decide) (by decide), f2.I (53 + 1) (by decide) (by decide) (by decide), f2.I (53 + 2) (by decide) (by decide) (by decide), f2.I (53 + 3) (by decide) (by decide) (by decide), f2.I (53 + 4) (by decide) (by decide) (by decide)]
    exact hm
  obtain ⟨_, e3, h3, rfl, f3, g3⟩ := k_nar2_52 (cs_fr f2 s1) (cc_fr f2 (by decide) s1 c1) hw l2 (by rw [f2.2.1]; exact hf) m2 hk mkk.1 kn g2 v2 (fun j hj => by
    rw [f2.I 59 (by decide) (by decide) (by decide)]
    exact (hr_al hr hj).1)
  have l3 := f3.lay l2
  have pl := put_lt (M := M) (k := k) (fun i hi => by have := mk i (by omega); omega)
  refine ⟨hI h3 52 5 (nI (cntB (lvB A P S M (k + 1)) (A 2))), by simp (disch := first | assumption | omega | decide | ((repeat first | apply lyI | apply lyJ | apply lywI | apply lywJ | apply csI | apply csJ | apply cswI | apply cswJ); assumption)) only [f_X3_narrow, SH52, LI, ↓li_m1, nI_add, pk_mul, nn_sub, nn_m1, nn_div, nn_rem, nn_nz, nn_mod, nJ_l, lN_add, lN_mul, nn_tb1, nI_bt, nn_and, nn_or, nn_xor, nn_shr, nn_1shl, nn_31, il_p, il_n, it_p, it_n, ie_p, ie_n, ie_b, ie_b1, ie_m, ie_mm, it_m, it_m0, il_m0, bI_rZ, Option.bind_some, bd2_some, Nat.add_zero, Nat.zero_add, if_true, if_false, Bool.false_eq_true, eq_self, hI_R, hJ_R, e1, hp, eo, e2', e3], ?_, ?_, ?_, ?_, ?_⟩
  · exact ((f1.tr (f2.mono (by decide) (by decide) (by decide) (by decide))).tr (f3.mono (by decide) (by decide) (by decide) (by decide))).tr (FR.hI (by decide) (by decide) (by decide))
  · rw [rI_hI, if_pos ⟨rfl, rfl⟩]
  · rw [rI_hI, if_neg (by decide), f3.I 52 (by decide) (by decide) (by decide), f2.I 52 (by decide) (by decide) (by decide)]
    show (hI h 52 6 _).2.1 52 6 = _
    rw [rI_hI, if_pos ⟨rfl, rfl⟩]
  · intro w hw hpw
    have := g2 w hw hpw
    show (hI h3 52 5 _).2.1 58 w = _
    rw [rI_hI, if_neg (fun e => absurd e.1 (by decide)), f3.I 58 (by decide) (by decide) (by decide)]
    exact this
  · intro w hw hlw
    show (hI h3 52 5 _).2.1 59 _ = _
    rw [rI_hI, if_neg (fun e => absurd e.1 (by decide))]
    exact g3 w hw hlw
theorem k_reb1_52 {h : aH} {c : Nat} (hs : CS h c) {A : Nat → Nat} {P : Nat → Bool} {Q : Nat → Nat → Bool} {S : Nat → Nat → Nat → Nat → Nat} (hc : CC h c A P Q S) (hw : WF A) (hl : LAY h) (hf : h.2.2.2 52 4 = some c) (h5 : h.2.1 52 5 = nI 0) : ∃ h', f_X3_rebuild_l12 52 (nI 0) h = some h' ∧ FR h h' [52, 58, 59] [] [] [] ∧ h'.2.1 52 5 = nI (cntB P (A 2)) ∧ h'.2.1 52 6 = h.2.1 52 6 ∧ (∀ w, w < A 2 → h'.2.1 58 w = nI 65535) ∧ ∀ w, w < A 2 → P w = true → h'.2.1 59 (cntB P w) = nI w := by
  obtain ⟨b0, b1, b2l, b2, b3, b4⟩ := wf_b hw
  refine forI (fun j (s : Int32 × aH) => ∃ g, s = (nI j, g) ∧ FR h g [52, 58, 59] [] [] [] ∧ g.2.1 52 5 = nI (cntB P j) ∧ g.2.1 52 6 = h.2.1 52 6 ∧ (∀ w, w < j → g.2.1 58 w = nI 65535) ∧ ∀ w, w < j → P w = true → g.2.1 59 (cntB P w) = nI w) _ (A 2) (by omega) ⟨h, rfl, FR.rf, h5, rfl, fun w hw => absurd hw (by omega), fun w hw => absurd hw (by omega)⟩ ?_ ?_
  · rintro j _ hj ⟨g, rfl, fg, i1, i2, i3, i4⟩
    have lg := fg.lay hl
    have hfg : g.2.2.2 52 4 = some c := by rw [fg.2.1]; exact hf
    let g1 := hI g 58 j (nI 65535)
    have fg1 : FR h g1 [52, 58, 59] [] [] [] := fg.tr (FR.hI (by decide) (by decide) (by decide))
    have lg1 : LAY g1 := lg
    have sg := cs_fr fg hs
    have sg1 : CS g1 c := sg
    have cg1 := cc_fr fg1 (by decide) hs hc
    have ew := (cc_fr fg (by decide) hs hc).1.2.2.1
    have r1 : f_X1_canBe (hI g 58 j (nI 65535)) c (nI j) = some (bI (P j)) := c_canBe sg1 cg1 hw hj
    have k3 : ∀ w, w < j + 1 → g1.2.1 58 w = nI 65535 := fun w hw => by
      show (hI g 58 j _).2.1 58 w = _
      rw [rI_hI]
      by_cases hx : w = j
      · rw [if_pos ⟨rfl, hx⟩]
      · rw [if_neg (fun e => hx e.2)]
        exact i3 w (by omega)
    have cj := cntB_le P j
    have i1' : (hI g 58 j (nI 65535)).2.1 52 5 = nI (cntB P j) := i1
    rcases (Bool.eq_false_or_eq_true (P j)).symm with hp | hp
    · rw [hp] at r1
      refine ⟨(nI (j + 1), g1), by simp (disch := first | assumption | omega | decide | ((repeat first | apply lyI | apply lyJ | apply lywI | apply lywJ | apply csI | apply csJ | apply cswI | apply cswJ); assumption)) only [f_X3_rebuild_b12, f_X3_rebuild_j62, SH52, SC, LI, ↓li_m1, nI_add, pk_mul, nn_sub, nn_m1, nn_div, nn_rem, nn_nz, nn_mod, nJ_l, lN_add, lN_mul, nn_tb1, nI_bt, nn_and, nn_or, nn_xor, nn_shr, nn_1shl, nn_31, il_p, il_n, it_p, it_n, ie_p, ie_n, ie_b, ie_b1, ie_m, ie_mm, it_m, it_m0, il_m0, bI_rZ, Option.bind_some, bd2_some, Nat.add_zero, Nat.zero_add, if_true, if_false, Bool.false_eq_true, eq_self, hI_R, hJ_R, hfg, ew, r1, bI_f]; try rfl, g1, rfl, fg1, by rw [cntB_f hp]; exact i1, i2, k3, fun w hw hpw => ?_⟩
      rcases Nat.lt_or_ge w j with u | u
      · exact i4 w u hpw
      · rw [show w = j by omega, hp] at hpw
        cases hpw
    · rw [hp] at r1
      refine ⟨(nI (j + 1), hI (hI g1 59 (cntB P j) (nI j)) 52 5 (nI (cntB P j + 1))), ?_, _, rfl, (fg1.tr (FR.hI (by decide) (by decide) (by decide))).tr (FR.hI (by decide) (by decide) (by decide)), ?_, i2, k3, fun w hw hpw => ?_⟩
      · have i1'' : (hI (hI g 58 j (nI 65535)) 59 (cntB P j) (nI j)).2.1 52 5 = nI (cntB P j) := i1
        simp (disch := first | assumption | omega | decide | ((repeat first | apply lyI | apply lyJ | apply lywI | apply lywJ | apply csI | apply csJ | apply cswI | apply cswJ); assumption)) only [f_X3_rebuild_b12, f_X3_rebuild_j62, SH52, SC, LI, ↓li_m1, nI_add, pk_mul, nn_sub, nn_m1, nn_div, nn_rem, nn_nz, nn_mod, nJ_l, lN_add, lN_mul, nn_tb1, nI_bt, nn_and, nn_or, nn_xor, nn_shr, nn_1shl, nn_31, il_p, il_n, it_p, it_n, ie_p, ie_n, ie_b, ie_b1, ie_m, ie_mm, it_m, it_m0, il_m0, bI_rZ, Option.bind_some, bd2_some, Nat.add_zero, Nat.zero_add, if_true, if_false, Bool.false_eq_true, eq_self, hI_R, hJ_R, hfg, ew, r1, bI_t, i1', i1'']
        try rfl
      · rw [cntB_t hp]
        rfl
      · show (hI g1 59 (cntB P j) (nI j)).2.1 59 _ = _
        rw [rI_hI]
        rcases Nat.lt_or_ge w j with u | u
        · have := cntB_lt u hpw
          rw [if_neg (fun e => by omega)]
          exact i4 w u hpw
        · rw [show w = j by omega, if_pos ⟨rfl, rfl⟩]
  · rintro _ ⟨g, rfl, fg, i1, i2, i3, i4⟩
    have lg := fg.lay hl
    have sg := cs_fr fg hs
    have hfg : g.2.2.2 52 4 = some c := by rw [fg.2.1]; exact hf
    have ew := (cc_fr fg (by decide) hs hc).1.2.2.1
    exact ⟨g, by simp (disch := first | assumption | omega | decide | ((repeat first | apply lyI | apply lyJ | apply lywI | apply lywJ | apply csI | apply csJ | apply cswI | apply cswJ); assumption)) only [f_X3_rebuild_b12, f_X3_rebuild_j62, SH52, SC, LI, ↓li_m1, nI_add, pk_mul, nn_sub, nn_m1, nn_div, nn_rem, nn_nz, nn_mod, nJ_l, lN_add, lN_mul, nn_tb1, nI_bt, nn_and, nn_or, nn_xor, nn_shr, nn_1shl, nn_31, il_p, il_n, it_p, it_n, ie_p, ie_n, ie_b, ie_b1, ie_m, ie_mm, it_m, it_m0, il_m0, bI_rZ, Option.bind_some, bd2_some, Nat.add_zero, Nat.zero_add, if_true, if_false, Bool.false_eq_true, eq_self, hI_R, hJ_R, hfg, ew], fg, i1, i2, i3, i4⟩
theorem k_rebuild52 {h : aH} {c : Nat} (hs : CS h c) {A : Nat → Nat} {P : Nat → Bool} {Q : Nat → Nat → Bool} {S : Nat → Nat → Nat → Nat → Nat} (hc : CC h c A P Q S) (hw : WF A) (hl : LAY h) (hf : h.2.2.2 52 4 = some c) {n d : Nat} {M : Nat → Nat → Nat} (hm : MN h 53 n d M) (mw : MW A n d M) : ∃ h', f_X3_rebuild h 52 = some h' ∧ FR h h' [52, 58, 59] [] [] [] ∧ HR h' 52 A P S M n := by
  obtain ⟨b0, b1, b2l, b2, b3, b4⟩ := wf_b hw
  let h1 := hI (hI h 52 5 (nI 0)) 52 6 (nI 0)
  have f1 : FR h h1 [52, 58, 59] [] [] [] := (FR.hI (by decide) (by decide) (by decide)).tr (FR.hI (by decide) (by decide) (by decide))
  have l1 : LAY h1 := hl
  obtain ⟨h2, e2, f2, v5, v6, v7, v8⟩ := k_reb1_52 (h := h1) hs (cc_fr f1 (by decide) hs hc) hw l1 hf rfl
  have e2' : f_X3_rebuild_l12 52 (nI 0) (hI (hI h 52 5 (nI 0)) 52 6 (nI 0)) = some h2 := e2
  have mn : ∀ g, FR h g [52, 58, 59] [] [] [] → MN g 53 n d M := fun g fg => by
    unfold MN
    rw [fg.I 53 (by decide) (by decide) (by decide), fg.I (53 + 1) (by decide) (by decide) (by decide), fg.I (53 + 2) (by decide) (by decide) (by decide), fg.I (53 + 3) (by decide) (by decide) (by decide), fg.I (53 + 4) (by decide) (by decide) (by decide)]
    exact hm
  have f12 := f1.tr f2
  have e : ∃ h', f_X3_rebuild_l70 52 (nI 0) h2 = some h' ∧ FR h h' [52, 58, 59] [] [] [] ∧ HR h' 52 A P S M n := by
    have z0 : lvB A P S M 0 = P := funext fun w => lv_0 hw
    refine forI (fun j (s : Int32 × aH) => ∃ g, s = (nI j, g) ∧ FR h g [52, 58, 59] [] [] [] ∧ HR g 52 A P S M j) _ n (by have := mw.1; omega) ⟨h2, rfl, f12, by rw [z0]; exact v5, v6, fun w hw _ => by rw [pk4_15]; exact v7 w hw, by rw [z0]; exact v8⟩ ?_ ?_
    · rintro j _ hj ⟨g, rfl, fg, hr⟩
      have lg := fg.lay hl
      have mg := mn g fg
      have m4 : g.2.1 53 4 = nI n := mg.1
      obtain ⟨g', e1, f', r'⟩ := k_narrow52 (cs_fr fg hs) (cc_fr fg (by decide) hs hc) hw lg (by rw [fg.2.1]; exact hf) mg hj mw hr
      have := mw.1
      exact ⟨(nI (j + 1), g'), by simp (disch := first | assumption | omega | decide | ((repeat first | apply lyI | apply lyJ | apply lywI | apply lywJ | apply csI | apply csJ | apply cswI | apply cswJ); assumption)) only [f_X3_rebuild_b70, f_X3_rebuild_j62, SH52, LI, ↓li_m1, nI_add, pk_mul, nn_sub, nn_m1, nn_div, nn_rem, nn_nz, nn_mod, nJ_l, lN_add, lN_mul, nn_tb1, nI_bt, nn_and, nn_or, nn_xor, nn_shr, nn_1shl, nn_31, il_p, il_n, it_p, it_n, ie_p, ie_n, ie_b, ie_b1, ie_m, ie_mm, it_m, it_m0, il_m0, bI_rZ, Option.bind_some, bd2_some, Nat.add_zero, Nat.zero_add, if_true, if_false, Bool.false_eq_true, eq_self, hI_R, hJ_R, m4, e1], g', rfl, fg.tr f', r'⟩
    · rintro _ ⟨g, rfl, fg, hr⟩
      have lg := fg.lay hl
      have m4 : g.2.1 53 4 = nI n := (mn g fg).1
      have := mw.1
      exact ⟨g, by simp (disch := first | assumption | omega | decide | ((repeat first | apply lyI | apply lyJ | apply lywI | apply lywJ | apply csI | apply csJ | apply cswI | apply cswJ); assumption)) only [f_X3_rebuild_b70, f_X3_rebuild_j62, SH52, LI, ↓li_m1, nI_add, pk_mul, nn_sub, nn_m1, nn_div, nn_rem, nn_nz, nn_mod, nJ_l, lN_add, lN_mul, nn_tb1, nI_bt, nn_and, nn_or, nn_xor, nn_shr, nn_1shl, nn_31, il_p, il_n, it_p, it_n, ie_p, ie_n, ie_b, ie_b1, ie_m, ie_mm, it_m, it_m0, il_m0, bI_rZ, Option.bind_some, bd2_some, Nat.add_zero, Nat.zero_add, if_true, if_false, Bool.false_eq_true, eq_self, hI_R, hJ_R, m4], fg, hr⟩
  obtain ⟨h3, e3, f3, r3⟩ := e
  exact ⟨h3, by simp (disch := first | assumption | omega | decide | ((repeat first | apply lyI | apply lyJ | apply lywI | apply lywJ | apply csI | apply csJ | apply cswI | apply cswJ); assumption)) only [f_X3_rebuild, SH52, LI, ↓li_m1, nI_add, pk_mul, nn_sub, nn_m1, nn_div, nn_rem, nn_nz, nn_mod, nJ_l, lN_add, lN_mul, nn_tb1, nI_bt, nn_and, nn_or, nn_xor, nn_shr, nn_1shl, nn_31, il_p, il_n, it_p, it_n, ie_p, ie_n, ie_b, ie_b1, ie_m, ie_mm, it_m, it_m0, il_m0, bI_rZ, Option.bind_some, bd2_some, Nat.add_zero, Nat.zero_add, if_true, if_false, Bool.false_eq_true, eq_self, hI_R, hJ_R, e2', e3], f3, r3⟩
theorem k_left68 {h : aH} {c : Nat} (hs : CS h c) {A : Nat → Nat} {P : Nat → Bool} {Q : Nat → Nat → Bool} {S : Nat → Nat → Nat → Nat → Nat} (hc : CC h c A P Q S) (hw : WF A) (hl : LAY h) (hf : h.2.2.2 68 4 = some c) {n : Nat} {M : Nat → Nat → Nat} (hfit : ∀ w, w < A 2 → P w = true → h.2.1 74 w = nI (pk4 (fun u => fcN S M w u n))) {v w : Nat} (hv : v < A 4) (h1 : w < A 2) (hp : P w = true) : f_X3_kindsLeft h 68 (nI v) (nI w) = some (nI (fcN S M w v n &&& mayN A v)) := by
  obtain ⟨b0, b1, b2l, b2, b3, b4⟩ := wf_b hw
  have e := hfit w h1 hp
  have em := hc.1.2.2.2.2.2.2
  have f4 : ∀ u, u < 4 → fcN S M w u n < 16 := fun u _ => fcN_lt S M w u n
  have m4 : ∀ u, u < 4 → myN A u < 16 := fun u _ => myN_lt u
  have a4 : ∀ u, u < 4 → fcN S M w u n &&& myN A u < 16 := fun u hu => Nat.lt_of_le_of_lt Nat.and_le_left (f4 u hu)
  have ea := pk4_and f4 m4
  have l1 := pk4_lt a4
  have eb := pk4_at a4 (show v < 4 by omega)
  simp (disch := first | assumption | omega | decide | ((repeat first | apply lyI | apply lyJ | apply lywI | apply lywJ | apply csI | apply csJ | apply cswI | apply cswJ); assumption)) only [f_X3_kindsLeft, SH68, SC, LI, ↓li_m1, nI_add, pk_mul, nn_sub, nn_m1, nn_div, nn_rem, nn_nz, nn_mod, nJ_l, lN_add, lN_mul, nn_tb1, nI_bt, nn_and, nn_or, nn_xor, nn_shr, nn_1shl, nn_31, il_p, il_n, it_p, it_n, ie_p, ie_n, ie_b, ie_b1, ie_m, ie_mm, it_m, it_m0, il_m0, bI_rZ, Option.bind_some, bd2_some, Nat.add_zero, Nat.zero_add, if_true, if_false, Bool.false_eq_true, eq_self, hI_R, hJ_R, hf, e, em, ea, eb]
  show some (nI (fcN S M w v n &&& myN A v)) = _
  unfold myN
  rw [if_pos hv]
theorem k_agree68 {h : aH} {c : Nat} (hs : CS h c) {A : Nat → Nat} {P : Nat → Bool} {Q : Nat → Nat → Bool} {S : Nat → Nat → Nat → Nat → Nat} (hc : CC h c A P Q S) (hw : WF A) (hl : LAY h) (hf : h.2.2.2 68 4 = some c) {n d k : Nat} {M : Nat → Nat → Nat} (hm : MN h 69 n d M) (hk : k < n) (mk : M k 0 < A 4 ∧ M k 1 < A 3 ∧ M k 2 < 2 * A 3) (kn : n ≤ 12) {w : Nat} (h1 : w < A 2) (hp : P w = true) : f_X3_agreeing h 68 (nI k) (nI w) = some (nI (pk4 (fun u => if u = M k 0 then kfN S (M k 0) (M k 1) w (M k 2) else 15))) := by
  obtain ⟨b0, b1, b2l, b2, b3, b4⟩ := wf_b hw
  obtain ⟨e0, e1, e2, -⟩ := hm.2.2 k hk
  have r1 := c_packed hs hc hw mk.1 mk.2.1 h1 hp
  have sb := (hc.2.2.2.2.2.2 _ _ w mk.1 mk.2.1 h1 hp).2
  have r2 := c_kinds (h := h) (s := S (M k 0) (M k 1) w) (fun i hi => by have := sb i hi; omega) (a := M k 2) (by omega)
  have kl := kfN_lt S (M k 0) (M k 1) w (M k 2)
  have r3 := mask4 (M k 0) (by omega) _ kl
  unfold kfN at r3 kl ⊢
  simp (disch := first | assumption | omega | decide | ((repeat first | apply lyI | apply lyJ | apply lywI | apply lywJ | apply csI | apply csJ | apply cswI | apply cswJ); assumption)) only [f_X3_agreeing, SH68, SC, LI, ↓li_m1, nI_add, pk_mul, nn_sub, nn_m1, nn_div, nn_rem, nn_nz, nn_mod, nJ_l, lN_add, lN_mul, nn_tb1, nI_bt, nn_shr, nn_1shl, nn_31, il_p, il_n, it_p, it_n, ie_p, ie_n, ie_b, ie_b1, ie_m, ie_mm, it_m, it_m0, il_m0, bI_rZ, Option.bind_some, bd2_some, Nat.add_zero, Nat.zero_add, if_true, if_false, Bool.false_eq_true, eq_self, hI_R, hJ_R, hf, e0, e1, e2, r1, r2]
  rw [show nI (M k 0 * 4) &&& nI 31 = nI (M k 0 * 4) by rw [nn_and, nn_31 (by omega)]]
  rw [r3]
theorem k_nar1_68 {h : aH} {c : Nat} (hs : CS h c) {A : Nat → Nat} {P : Nat → Bool} {Q : Nat → Nat → Bool} {S : Nat → Nat → Nat → Nat → Nat} (hc : CC h c A P Q S) (hw : WF A) (hl : LAY h) (hf : h.2.2.2 68 4 = some c) {n d k : Nat} {M : Nat → Nat → Nat} (hm : MN h 69 n d M) (hk : k < n) (mk : M k 0 < A 4 ∧ M k 1 < A 3 ∧ M k 2 < 2 * A 3) (kn : n ≤ 12) (hfit : ∀ w, w < A 2 → P w = true → h.2.1 74 w = nI (pk4 (fun u => fcN S M w u k))) : ∃ h', f_X3_narrow_l22 68 (nI k) (nI 0) h = some h' ∧ FR h h' [74] [] [] [] ∧ ∀ w, w < A 2 → P w = true → h'.2.1 74 w = nI (pk4 (fun u => fcN S M w u (k + 1))) := by
  obtain ⟨b0, b1, b2l, b2, b3, b4⟩ := wf_b hw
  refine forI (fun j (s : Int32 × aH) => ∃ g, s = (nI j, g) ∧ FR h g [74] [] [] [] ∧ (∀ w, w < j → P w = true → g.2.1 74 w = nI (pk4 (fun u => fcN S M w u (k + 1)))) ∧ ∀ w, j ≤ w → g.2.1 74 w = h.2.1 74 w) _ (A 2) (by omega) ⟨h, rfl, FR.rf, fun w hw => absurd hw (by omega), fun _ _ => rfl⟩ ?_ ?_
  · rintro j _ hj ⟨g, rfl, fg, i1, i2⟩
    have lg := fg.lay hl
    have sg := cs_fr fg hs
    have cg := cc_fr fg (by decide) hs hc
    have hfg : g.2.2.2 68 4 = some c := by rw [fg.2.1]; exact hf
    have mg : MN g 69 n d M := by
      unfold MN
      rw [fg.I 69 (by decide) (by decide) (by decide), fg.I (69 + 1) (by decide) (by decide) (by decide), fg.I (69 + 2) (by decide) (by decide) (by decide), fg.I (69 + 3) (by decide) (by decide) (by decide), fg.I (69 + 4) (by decide) (by decide) (by decide)]
      exact hm
    have ew := cg.1.2.2.1
    have r1 := c_canBe sg cg hw hj
    rcases (Bool.eq_false_or_eq_true (P j)).symm with hp | hp
    · rw [hp] at r1
      refine ⟨(nI (j + 1), g), by simp (disch := first | assumption | omega | decide | ((repeat first | apply lyI | apply lyJ | apply lywI | apply lywJ | apply csI | apply csJ | apply cswI | apply cswJ); assumption)) only [f_X3_narrow_b22, f_X3_narrow_j59, f_X3_narrow_j114, SH68, SC, LI, ↓li_m1, nI_add, pk_mul, nn_sub, nn_m1, nn_div, nn_rem, nn_nz, nn_mod, nJ_l, lN_add, lN_mul, nn_tb1, nI_bt, nn_and, nn_or, nn_xor, nn_shr, nn_1shl, nn_31, il_p, il_n, it_p, it_n, ie_p, ie_n, ie_b, ie_b1, ie_m, ie_mm, it_m, it_m0, il_m0, bI_rZ, Option.bind_some, bd2_some, Nat.add_zero, Nat.zero_add, if_true, if_false, Bool.false_eq_true, eq_self, hI_R, hJ_R, hfg, ew, r1, bI_f], g, rfl, fg, fun w hw hpw => ?_, fun w hw => i2 w (by omega)⟩
      rcases Nat.lt_or_ge w j with q | q
      · exact i1 w q hpw
      · rw [show w = j by omega, hp] at hpw
        cases hpw
    · rw [hp] at r1
      have r2 := k_agree68 sg cg hw lg hfg mg hk mk kn hj hp
      have e := (i2 j (Nat.le_refl j)).trans (hfit j hj hp)
      have ea := pk4_and (f := fun u => fcN S M j u k) (g := fun u => if u = M k 0 then kfN S (M k 0) (M k 1) j (M k 2) else 15) (fun u _ => fcN_lt S M j u k) (fun u _ => by
        show (if u = M k 0 then _ else _) < 16
        split
        · exact kfN_lt _ _ _ _ _
        · decide)
      have eb : pk4 (fun u => fcN S M j u k &&& (if u = M k 0 then kfN S (M k 0) (M k 1) j (M k 2) else 15)) = pk4 (fun u => fcN S M j u (k + 1)) := by
        refine congrArg pk4 (funext fun u => ?_)
        show _ = (if M k 0 = u then fcN S M j u k &&& kfN S u (M k 1) j (M k 2) else fcN S M j u k)
        by_cases hx : u = M k 0
        · rw [if_pos hx, if_pos hx.symm, hx]
        · rw [if_neg hx, if_neg (fun e => hx e.symm), and15, Nat.mod_eq_of_lt (fcN_lt S M j u k)]
      rw [eb] at ea
      refine ⟨(nI (j + 1), hI g 74 j (nI (pk4 (fun u => fcN S M j u (k + 1))))), by simp (disch := first | assumption | omega | decide | ((repeat first | apply lyI | apply lyJ | apply lywI | apply lywJ | apply csI | apply csJ | apply cswI | apply cswJ); assumption)) only [f_X3_narrow_b22, f_X3_narrow_j59, f_X3_narrow_j114, SH68, SC, LI, ↓li_m1, nI_add, pk_mul, nn_sub, nn_m1, nn_div, nn_rem, nn_nz, nn_mod, nJ_l, lN_add, lN_mul, nn_tb1, nI_bt, nn_and, nn_or, nn_xor, nn_shr, nn_1shl, nn_31, il_p, il_n, it_p, it_n, ie_p, ie_n, ie_b, ie_b1, ie_m, ie_mm, it_m, it_m0, il_m0, bI_rZ, Option.bind_some, bd2_some, Nat.add_zero, Nat.zero_add, if_true, if_false, Bool.false_eq_true, eq_self, hI_R, hJ_R, hfg, ew, r1, bI_t, r2, e, ea], _, rfl, fg.tr (FR.hI (by decide) (by decide) (by decide)), fun w hw hpw => ?_, fun w hw => ?_⟩
      · rw [rI_hI]
        by_cases hx : w = j
        · rw [if_pos ⟨rfl, hx⟩, hx]
        · rw [if_neg (fun e => hx e.2)]
          exact i1 w (by omega) hpw
      · rw [rI_hI, if_neg (fun e => by omega)]
        exact i2 w (by omega)
  · rintro _ ⟨g, rfl, fg, i1, i2⟩
    have lg := fg.lay hl
    have sg := cs_fr fg hs
    have cg := cc_fr fg (by decide) hs hc
    have hfg : g.2.2.2 68 4 = some c := by rw [fg.2.1]; exact hf
    have ew := cg.1.2.2.1
    exact ⟨g, by simp (disch := first | assumption | omega | decide | ((repeat first | apply lyI | apply lyJ | apply lywI | apply lywJ | apply csI | apply csJ | apply cswI | apply cswJ); assumption)) only [f_X3_narrow_b22, f_X3_narrow_j59, f_X3_narrow_j114, SH68, SC, LI, ↓li_m1, nI_add, pk_mul, nn_sub, nn_m1, nn_div, nn_rem, nn_nz, nn_mod, nJ_l, lN_add, lN_mul, nn_tb1, nI_bt, nn_and, nn_or, nn_xor, nn_shr, nn_1shl, nn_31, il_p, il_n, it_p, it_n, ie_p, ie_n, ie_b, ie_b1, ie_m, ie_mm, it_m, it_m0, il_m0, bI_rZ, Option.bind_some, bd2_some, Nat.add_zero, Nat.zero_add, if_true, if_false, Bool.false_eq_true, eq_self, hI_R, hJ_R, hfg, ew], fg, i1⟩
theorem k_nar2_68 {h : aH} {c : Nat} (hs : CS h c) {A : Nat → Nat} {P : Nat → Bool} {Q : Nat → Nat → Bool} {S : Nat → Nat → Nat → Nat → Nat} (hc : CC h c A P Q S) (hw : WF A) (hl : LAY h) (hf : h.2.2.2 68 4 = some c) {n d k : Nat} {M : Nat → Nat → Nat} (hm : MN h 69 n d M) (hk : k < n) (mk : M k 0 < A 4) (kn : n ≤ 12) (hfit : ∀ w, w < A 2 → P w = true → h.2.1 74 w = nI (pk4 (fun u => fcN S M w u (k + 1)))) (hv : h.2.1 68 5 = nI (cntB (lvB A P S M k) (A 2))) (ha : ∀ j, j < cntB (lvB A P S M k) (A 2) → h.2.1 75 j = nI (alN (lvB A P S M k) (A 2) j)) : ∃ e, f_X3_narrow_l69 68 (nI k) (nI 0) (nI 0) h = some e ∧ ∃ h', e = (nI (cntB (lvB A P S M (k + 1)) (A 2)), h') ∧ FR h h' [75] [] [] [] ∧ ∀ w, w < A 2 → lvB A P S M (k + 1) w = true → h'.2.1 75 (cntB (lvB A P S M (k + 1)) w) = nI w := by
  obtain ⟨b0, b1, b2l, b2, b3, b4⟩ := wf_b hw
  have cle := cntB_le (lvB A P S M k) (A 2)
  have an := al_N (lvB A P S M k) (A 2)
  let q : Nat → Bool := fun w => fcN S M w (M k 0) (k + 1) &&& mayN A (M k 0) != 0
  let qa : Nat → Bool := fun j => q (alN (lvB A P S M k) (A 2) j)
  have cq : ∀ w, w ≤ A 2 → cntB qa (cntB (lvB A P S M k) w) = cntB (lvB A P S M (k + 1)) w := fun w hw => by
    have := al_cnt (q := q) (n := w) (p := lvB A P S M k) (al := alN (lvB A P S M k) (A 2)) (fun x hx hp => an x (by omega) hp)
    rw [show cntB qa (cntB (lvB A P S M k) w) = cntB (fun j => q (alN (lvB A P S M k) (A 2) j)) (cntB (lvB A P S M k) w) from rfl, this]
    exact cntB_congr (fun x _ => (lv_s mk).symm)
  have e : ∃ e, f_X3_narrow_l69 68 (nI k) (nI 0) (nI 0) h = some e ∧ ∃ h', e = (nI (cntB qa (cntB (lvB A P S M k) (A 2))), h') ∧ FR h h' [75] [] [] [] ∧ ∀ j, j < cntB (lvB A P S M k) (A 2) → qa j = true → h'.2.1 75 (cntB qa j) = nI (alN (lvB A P S M k) (A 2) j) := by
    refine forI (fun i (s : Int32 × Int32 × aH) => ∃ g, s = (nI (cntB qa i), nI i, g) ∧ FR h g [75] [] [] [] ∧ (∀ j, j < i → qa j = true → g.2.1 75 (cntB qa j) = nI (alN (lvB A P S M k) (A 2) j)) ∧ ∀ j, i ≤ j → g.2.1 75 j = h.2.1 75 j) _ (cntB (lvB A P S M k) (A 2)) (by omega) ⟨h, rfl, FR.rf, fun j hj => absurd hj (by omega), fun _ _ => rfl⟩ ?_ ?_
    · rintro i _ hi ⟨g, rfl, fg, i1, i2⟩
      have lg := fg.lay hl
      have sg := cs_fr fg hs
      have cg := cc_fr fg (by decide) hs hc
      have hfg : g.2.2.2 68 4 = some c := by rw [fg.2.1]; exact hf
      have gv : g.2.1 68 5 = nI (cntB (lvB A P S M k) (A 2)) := by rw [fg.I 68 (by decide) (by decide) (by decide)]; exact hv
      have gm : g.2.1 70 k = nI (M k 0) := by rw [fg.I 70 (by decide) (by decide) (by decide)]; exact (hm.2.2 k hk).1
      have gfit : ∀ w, w < A 2 → P w = true → g.2.1 74 w = nI (pk4 (fun u => fcN S M w u (k + 1))) := by rw [fg.I 74 (by decide) (by decide) (by decide)]; exact hfit
      obtain ⟨a1, a2, a3⟩ := al_at an i hi
      have ga := (i2 i (Nat.le_refl i)).trans (ha i hi)
      have r := k_left68 sg cg hw lg hfg gfit mk a1 (lv_P a2)
      have f4 := fcN_lt S M (alN (lvB A P S M k) (A 2) i) (M k 0) (k + 1)
      have f5 : fcN S M (alN (lvB A P S M k) (A 2) i) (M k 0) (k + 1) &&& mayN A (M k 0) < 16 := Nat.lt_of_le_of_lt Nat.and_le_left f4
      have cqi := cntB_le qa i
      by_cases hx : fcN S M (alN (lvB A P S M k) (A 2) i) (M k 0) (k + 1) &&& mayN A (M k 0) = 0
      · have hq : qa i = false := by
          show (_ != 0) = false
          rw [hx]
          rfl
        refine ⟨(nI (cntB qa (i + 1)), nI (i + 1), g), by simp (disch := first | assumption | omega | decide | ((repeat first | apply lyI | apply lyJ | apply lywI | apply lywJ | apply csI | apply csJ | apply cswI | apply cswJ); assumption)) only [f_X3_narrow_b69, f_X3_narrow_j59, f_X3_narrow_j114, SH68, SC, LI, ↓li_m1, nI_add, pk_mul, nn_sub, nn_m1, nn_div, nn_rem, nn_nz, nn_mod, nJ_l, lN_add, lN_mul, nn_tb1, nI_bt, nn_and, nn_or, nn_xor, nn_shr, nn_1shl, nn_31, il_p, il_n, it_p, it_n, ie_p, ie_n, ie_b, ie_b1, ie_m, ie_mm, it_m, it_m0, il_m0, bI_rZ, Option.bind_some, bd2_some, Nat.add_zero, Nat.zero_add, if_true, if_false, Bool.false_eq_true, eq_self, hI_R, hJ_R, gv, gm, ga, r, cntB_f hq], g, rfl, fg, fun j hj hqj => ?_, fun j hj => i2 j (by omega)⟩
        rcases Nat.lt_or_ge j i with u | u
        · exact i1 j u hqj
        · rw [show j = i by omega, hq] at hqj
          cases hqj
      · have hq : qa i = true := by
          show (_ != 0) = true
          simpa using hx
        refine ⟨(nI (cntB qa (i + 1)), nI (i + 1), hI g 75 (cntB qa i) (nI (alN (lvB A P S M k) (A 2) i))), by simp (disch := first | assumption | omega | decide | ((repeat first | apply lyI | apply lyJ | apply lywI | apply lywJ | apply csI | apply csJ | apply cswI | apply cswJ); assumption)) only [f_X3_narrow_b69, f_X3_narrow_j59, f_X3_narrow_j114, SH68, SC, LI, ↓li_m1, nI_add, pk_mul, nn_sub, nn_m1, nn_div, nn_rem, nn_nz, nn_mod, nJ_l, lN_add, lN_mul, nn_tb1, nI_bt, nn_and, nn_or, nn_xor, nn_shr, nn_1shl, nn_31, il_p, il_n, it_p, it_n, ie_p, ie_n, ie_b, ie_b1, ie_m, ie_mm, it_m, it_m0, il_m0, bI_rZ, Option.bind_some, bd2_some, Nat.add_zero, Nat.zero_add, if_true, if_false, Bool.false_eq_true, eq_self, hI_R, hJ_R, gv, gm, ga, r, cntB_t hq], _, rfl, fg.tr (FR.hI (by decide) (by decide) (by decide)), fun j hj hqj => ?_, fun j hj => ?_⟩
        · rw [rI_hI]
          rcases Nat.lt_or_ge j i with u | u
          · have := cntB_lt u hqj
            rw [if_neg (fun e => by omega)]
            exact i1 j u hqj
          · rw [show j = i by omega, if_pos ⟨rfl, rfl⟩]
        · rw [rI_hI, if_neg (fun e => by omega)]
          exact i2 j (by omega)
    · rintro _ ⟨g, rfl, fg, i1, i2⟩
      have lg := fg.lay hl
      have gv : g.2.1 68 5 = nI (cntB (lvB A P S M k) (A 2)) := by rw [fg.I 68 (by decide) (by decide) (by decide)]; exact hv
      exact ⟨_, by simp (disch := first | assumption | omega | decide | ((repeat first | apply lyI | apply lyJ | apply lywI | apply lywJ | apply csI | apply csJ | apply cswI | apply cswJ); assumption)) only [f_X3_narrow_b69, f_X3_narrow_j59, f_X3_narrow_j114, SH68, SC, LI, ↓li_m1, nI_add, pk_mul, nn_sub, nn_m1, nn_div, nn_rem, nn_nz, nn_mod, nJ_l, lN_add, lN_mul, nn_tb1, nI_bt, nn_and, nn_or, nn_xor, nn_shr, nn_1shl, nn_31, il_p, il_n, it_p, it_n, ie_p, ie_n, ie_b, ie_b1, ie_m, ie_mm, it_m, it_m0, il_m0, bI_rZ, Option.bind_some, bd2_some, Nat.add_zero, Nat.zero_add, if_true, if_false, Bool.false_eq_true, eq_self, hI_R, hJ_R, gv]; try rfl, g, rfl, fg, i1⟩
  obtain ⟨_, e1, h', rfl, fh, hj⟩ := e
  refine ⟨_, e1, h', by rw [cq _ (Nat.le_refl _)], fh, fun w hw hlw => ?_⟩
  have hlw' := hlw
  rw [lv_s mk, Bool.and_eq_true] at hlw'
  have := hj (cntB (lvB A P S M k) w) (cntB_lt hw hlw'.1) (by
    show q (alN (lvB A P S M k) (A 2) (cntB (lvB A P S M k) w)) = true
    rw [an w hw hlw'.1]
    exact hlw'.2)
  rw [cq w (by omega), an w hw hlw'.1] at this
  exact this
theorem k_narrow68 {h : aH} {c : Nat} (hs : CS h c) {A : Nat → Nat} {P : Nat → Bool} {Q : Nat → Nat → Bool} {S : Nat → Nat → Nat → Nat → Nat} (hc : CC h c A P Q S) (hw : WF A) (hl : LAY h) (hf : h.2.2.2 68 4 = some c) {n d k : Nat} {M : Nat → Nat → Nat} (hm : MN h 69 n d M) (hk : k < n) (mw : MW A n d M) (hr : HR h 68 A P S M k) : ∃ h', f_X3_narrow h 68 (nI k) = some h' ∧ FR h h' [68, 74, 75] [] [] [] ∧ HR h' 68 A P S M (k + 1) := by
  obtain ⟨b0, b1, b2l, b2, b3, b4⟩ := wf_b hw
  obtain ⟨kn, -, mk, -⟩ := mw
  have mkk := mk k hk
  have e1 : h.2.1 71 k = nI (M k 1) := (hm.2.2 k hk).2.1
  have hv : h.2.1 68 5 = nI (cntB (lvB A P S M k) (A 2)) := hr.1
  have hp : h.2.1 68 6 = nI (orN (fun i => 2 ^ M i 1) k) := hr.2.1
  let h1 := hI h 68 6 (nI (orN (fun i => 2 ^ M i 1) (k + 1)))
  have f1 : FR h h1 [68, 74, 75] [] [] [] := FR.hI (by decide) (by decide) (by decide)
  have l1 : LAY h1 := hl
  have s1 : CS h1 c := hs
  have c1 := cc_fr f1 (by decide) hs hc
  have eo : orN (fun i => 2 ^ M i 1) k ||| 2 ^ M k 1 = orN (fun i => 2 ^ M i 1) (k + 1) := rfl
  obtain ⟨h2, e2, f2, g2⟩ := k_nar1_68 s1 c1 hw l1 hf (h := h1) hm hk ⟨mkk.1, mkk.2.1, mkk.2.2.1⟩ kn hr.2.2.1
  have e2' : f_X3_narrow_l22 68 (nI k) (nI 0) (hI h 68 6 (nI (orN (fun i => 2 ^ M i 1) (k + 1)))) = some h2 := e2
  have l2 := f2.lay l1
  have v2 : h2.2.1 68 5 = nI (cntB (lvB A P S M k) (A 2)) := by rw [f2.I 68 (by decide) (by decide) (by decide)]; exact hv
  have m2 : MN h2 69 n d M := by
    unfold MN
    rw [f2.I 69 (by decide) (by decide) (by decide), f2.I (69 + 1) (by decide) (by decide) (by decide), f2.I (69 + 2) (by decide) (by decide) (by decide), f2.I (69 + 3) (by decide) (by decide) (by decide), f2.I (69 + 4) (by decide) (by decide) (by decide)]
    exact hm
  obtain ⟨_, e3, h3, rfl, f3, g3⟩ := k_nar2_68 (cs_fr f2 s1) (cc_fr f2 (by decide) s1 c1) hw l2 (by rw [f2.2.1]; exact hf) m2 hk mkk.1 kn g2 v2 (fun j hj => by
    rw [f2.I 75 (by decide) (by decide) (by decide)]
    exact (hr_al hr hj).1)
  have l3 := f3.lay l2
  have pl := put_lt (M := M) (k := k) (fun i hi => by have := mk i (by omega); omega)
  refine ⟨hI h3 68 5 (nI (cntB (lvB A P S M (k + 1)) (A 2))), by simp (disch := first | assumption | omega | decide | ((repeat first | apply lyI | apply lyJ | apply lywI | apply lywJ | apply csI | apply csJ | apply cswI | apply cswJ); assumption)) only [f_X3_narrow, SH68, LI, ↓li_m1, nI_add, pk_mul, nn_sub, nn_m1, nn_div, nn_rem, nn_nz, nn_mod, nJ_l, lN_add, lN_mul, nn_tb1, nI_bt, nn_and, nn_or, nn_xor, nn_shr, nn_1shl, nn_31, il_p, il_n, it_p, it_n, ie_p, ie_n, ie_b, ie_b1, ie_m, ie_mm, it_m, it_m0, il_m0, bI_rZ, Option.bind_some, bd2_some, Nat.add_zero, Nat.zero_add, if_true, if_false, Bool.false_eq_true, eq_self, hI_R, hJ_R, e1, hp, eo, e2', e3], ?_, ?_, ?_, ?_, ?_⟩
  · exact ((f1.tr (f2.mono (by decide) (by decide) (by decide) (by decide))).tr (f3.mono (by decide) (by decide) (by decide) (by decide))).tr (FR.hI (by decide) (by decide) (by decide))
  · rw [rI_hI, if_pos ⟨rfl, rfl⟩]
  · rw [rI_hI, if_neg (by decide), f3.I 68 (by decide) (by decide) (by decide), f2.I 68 (by decide) (by decide) (by decide)]
    show (hI h 68 6 _).2.1 68 6 = _
    rw [rI_hI, if_pos ⟨rfl, rfl⟩]
  · intro w hw hpw
    have := g2 w hw hpw
    show (hI h3 68 5 _).2.1 74 w = _
    rw [rI_hI, if_neg (fun e => absurd e.1 (by decide)), f3.I 74 (by decide) (by decide) (by decide)]
    exact this
  · intro w hw hlw
    show (hI h3 68 5 _).2.1 75 _ = _
    rw [rI_hI, if_neg (fun e => absurd e.1 (by decide))]
    exact g3 w hw hlw
theorem k_reb1_68 {h : aH} {c : Nat} (hs : CS h c) {A : Nat → Nat} {P : Nat → Bool} {Q : Nat → Nat → Bool} {S : Nat → Nat → Nat → Nat → Nat} (hc : CC h c A P Q S) (hw : WF A) (hl : LAY h) (hf : h.2.2.2 68 4 = some c) (h5 : h.2.1 68 5 = nI 0) : ∃ h', f_X3_rebuild_l12 68 (nI 0) h = some h' ∧ FR h h' [68, 74, 75] [] [] [] ∧ h'.2.1 68 5 = nI (cntB P (A 2)) ∧ h'.2.1 68 6 = h.2.1 68 6 ∧ (∀ w, w < A 2 → h'.2.1 74 w = nI 65535) ∧ ∀ w, w < A 2 → P w = true → h'.2.1 75 (cntB P w) = nI w := by
  obtain ⟨b0, b1, b2l, b2, b3, b4⟩ := wf_b hw
  refine forI (fun j (s : Int32 × aH) => ∃ g, s = (nI j, g) ∧ FR h g [68, 74, 75] [] [] [] ∧ g.2.1 68 5 = nI (cntB P j) ∧ g.2.1 68 6 = h.2.1 68 6 ∧ (∀ w, w < j → g.2.1 74 w = nI 65535) ∧ ∀ w, w < j → P w = true → g.2.1 75 (cntB P w) = nI w) _ (A 2) (by omega) ⟨h, rfl, FR.rf, h5, rfl, fun w hw => absurd hw (by omega), fun w hw => absurd hw (by omega)⟩ ?_ ?_
  · rintro j _ hj ⟨g, rfl, fg, i1, i2, i3, i4⟩
    have lg := fg.lay hl
    have hfg : g.2.2.2 68 4 = some c := by rw [fg.2.1]; exact hf
    let g1 := hI g 74 j (nI 65535)
    have fg1 : FR h g1 [68, 74, 75] [] [] [] := fg.tr (FR.hI (by decide) (by decide) (by decide))
    have lg1 : LAY g1 := lg
    have sg := cs_fr fg hs
    have sg1 : CS g1 c := sg
    have cg1 := cc_fr fg1 (by decide) hs hc
    have ew := (cc_fr fg (by decide) hs hc).1.2.2.1
    have r1 : f_X1_canBe (hI g 74 j (nI 65535)) c (nI j) = some (bI (P j)) := c_canBe sg1 cg1 hw hj
    have k3 : ∀ w, w < j + 1 → g1.2.1 74 w = nI 65535 := fun w hw => by
      show (hI g 74 j _).2.1 74 w = _
      rw [rI_hI]
      by_cases hx : w = j
      · rw [if_pos ⟨rfl, hx⟩]
      · rw [if_neg (fun e => hx e.2)]
        exact i3 w (by omega)
    have cj := cntB_le P j
    have i1' : (hI g 74 j (nI 65535)).2.1 68 5 = nI (cntB P j) := i1
    rcases (Bool.eq_false_or_eq_true (P j)).symm with hp | hp
    · rw [hp] at r1
      refine ⟨(nI (j + 1), g1), by simp (disch := first | assumption | omega | decide | ((repeat first | apply lyI | apply lyJ | apply lywI | apply lywJ | apply csI | apply csJ | apply cswI | apply cswJ); assumption)) only [f_X3_rebuild_b12, f_X3_rebuild_j62, SH68, SC, LI, ↓li_m1, nI_add, pk_mul, nn_sub, nn_m1, nn_div, nn_rem, nn_nz, nn_mod, nJ_l, lN_add, lN_mul, nn_tb1, nI_bt, nn_and, nn_or, nn_xor, nn_shr, nn_1shl, nn_31, il_p, il_n, it_p, it_n, ie_p, ie_n, ie_b, ie_b1, ie_m, ie_mm, it_m, it_m0, il_m0, bI_rZ, Option.bind_some, bd2_some, Nat.add_zero, Nat.zero_add, if_true, if_false, Bool.false_eq_true, eq_self, hI_R, hJ_R, hfg, ew, r1, bI_f]; try rfl, g1, rfl, fg1, by rw [cntB_f hp]; exact i1, i2, k3, fun w hw hpw => ?_⟩
      rcases Nat.lt_or_ge w j with u | u
      · exact i4 w u hpw
      · rw [show w = j by omega, hp] at hpw
        cases hpw
    · rw [hp] at r1
      refine ⟨(nI (j + 1), hI (hI g1 75 (cntB P j) (nI j)) 68 5 (nI (cntB P j + 1))), ?_, _, rfl, (fg1.tr (FR.hI (by decide) (by decide) (by decide))).tr (FR.hI (by decide) (by decide) (by decide)), ?_, i2, k3, fun w hw hpw => ?_⟩
      · have i1'' : (hI (hI g 74 j (nI 65535)) 75 (cntB P j) (nI j)).2.1 68 5 = nI (cntB P j) := i1
        simp (disch := first | assumption | omega | decide | ((repeat first | apply lyI | apply lyJ | apply lywI | apply lywJ | apply csI | apply csJ | apply cswI | apply cswJ); assumption)) only [f_X3_rebuild_b12, f_X3_rebuild_j62, SH68, SC, LI, ↓li_m1, nI_add, pk_mul, nn_sub, nn_m1, nn_div, nn_rem, nn_nz, nn_mod, nJ_l, lN_add, lN_mul, nn_tb1, nI_bt, nn_and, nn_or, nn_xor, nn_shr, nn_1shl, nn_31, il_p, il_n, it_p, it_n, ie_p, ie_n, ie_b, ie_b1, ie_m, ie_mm, it_m, it_m0, il_m0, bI_rZ, Option.bind_some, bd2_some, Nat.add_zero, Nat.zero_add, if_true, if_false, Bool.false_eq_true, eq_self, hI_R, hJ_R, hfg, ew, r1, bI_t, i1', i1'']
        try rfl
      · rw [cntB_t hp]
        rfl
      · show (hI g1 75 (cntB P j) (nI j)).2.1 75 _ = _
        rw [rI_hI]
        rcases Nat.lt_or_ge w j with u | u
        · have := cntB_lt u hpw
          rw [if_neg (fun e => by omega)]
          exact i4 w u hpw
        · rw [show w = j by omega, if_pos ⟨rfl, rfl⟩]
  · rintro _ ⟨g, rfl, fg, i1, i2, i3, i4⟩
    have lg := fg.lay hl
    have sg := cs_fr fg hs
    have hfg : g.2.2.2 68 4 = some c := by rw [fg.2.1]; exact hf
    have ew := (cc_fr fg (by decide) hs hc).1.2.2.1
    exact ⟨g, by simp (disch := first | assumption | omega | decide | ((repeat first | apply lyI | apply lyJ | apply lywI | apply lywJ | apply csI | apply csJ | apply cswI | apply cswJ); assumption)) only [f_X3_rebuild_b12, f_X3_rebuild_j62, SH68, SC, LI, ↓li_m1, nI_add, pk_mul, nn_sub, nn_m1, nn_div, nn_rem, nn_nz, nn_mod, nJ_l, lN_add, lN_mul, nn_tb1, nI_bt, nn_and, nn_or, nn_xor, nn_shr, nn_1shl, nn_31, il_p, il_n, it_p, it_n, ie_p, ie_n, ie_b, ie_b1, ie_m, ie_mm, it_m, it_m0, il_m0, bI_rZ, Option.bind_some, bd2_some, Nat.add_zero, Nat.zero_add, if_true, if_false, Bool.false_eq_true, eq_self, hI_R, hJ_R, hfg, ew], fg, i1, i2, i3, i4⟩
theorem k_rebuild68 {h : aH} {c : Nat} (hs : CS h c) {A : Nat → Nat} {P : Nat → Bool} {Q : Nat → Nat → Bool} {S : Nat → Nat → Nat → Nat → Nat} (hc : CC h c A P Q S) (hw : WF A) (hl : LAY h) (hf : h.2.2.2 68 4 = some c) {n d : Nat} {M : Nat → Nat → Nat} (hm : MN h 69 n d M) (mw : MW A n d M) : ∃ h', f_X3_rebuild h 68 = some h' ∧ FR h h' [68, 74, 75] [] [] [] ∧ HR h' 68 A P S M n := by
  obtain ⟨b0, b1, b2l, b2, b3, b4⟩ := wf_b hw
  let h1 := hI (hI h 68 5 (nI 0)) 68 6 (nI 0)
  have f1 : FR h h1 [68, 74, 75] [] [] [] := (FR.hI (by decide) (by decide) (by decide)).tr (FR.hI (by decide) (by decide) (by decide))
  have l1 : LAY h1 := hl
  obtain ⟨h2, e2, f2, v5, v6, v7, v8⟩ := k_reb1_68 (h := h1) hs (cc_fr f1 (by decide) hs hc) hw l1 hf rfl
  have e2' : f_X3_rebuild_l12 68 (nI 0) (hI (hI h 68 5 (nI 0)) 68 6 (nI 0)) = some h2 := e2
  have mn : ∀ g, FR h g [68, 74, 75] [] [] [] → MN g 69 n d M := fun g fg => by
    unfold MN
    rw [fg.I 69 (by decide) (by decide) (by decide), fg.I (69 + 1) (by decide) (by decide) (by decide), fg.I (69 + 2) (by decide) (by decide) (by decide), fg.I (69 + 3) (by decide) (by decide) (by decide), fg.I (69 + 4) (by decide) (by decide) (by decide)]
    exact hm
  have f12 := f1.tr f2
  have e : ∃ h', f_X3_rebuild_l70 68 (nI 0) h2 = some h' ∧ FR h h' [68, 74, 75] [] [] [] ∧ HR h' 68 A P S M n := by
    have z0 : lvB A P S M 0 = P := funext fun w => lv_0 hw
    refine forI (fun j (s : Int32 × aH) => ∃ g, s = (nI j, g) ∧ FR h g [68, 74, 75] [] [] [] ∧ HR g 68 A P S M j) _ n (by have := mw.1; omega) ⟨h2, rfl, f12, by rw [z0]; exact v5, v6, fun w hw _ => by rw [pk4_15]; exact v7 w hw, by rw [z0]; exact v8⟩ ?_ ?_
    · rintro j _ hj ⟨g, rfl, fg, hr⟩
      have lg := fg.lay hl
      have mg := mn g fg
      have m4 : g.2.1 69 4 = nI n := mg.1
      obtain ⟨g', e1, f', r'⟩ := k_narrow68 (cs_fr fg hs) (cc_fr fg (by decide) hs hc) hw lg (by rw [fg.2.1]; exact hf) mg hj mw hr
      have := mw.1
      exact ⟨(nI (j + 1), g'), by simp (disch := first | assumption | omega | decide | ((repeat first | apply lyI | apply lyJ | apply lywI | apply lywJ | apply csI | apply csJ | apply cswI | apply cswJ); assumption)) only [f_X3_rebuild_b70, f_X3_rebuild_j62, SH68, LI, ↓li_m1, nI_add, pk_mul, nn_sub, nn_m1, nn_div, nn_rem, nn_nz, nn_mod, nJ_l, lN_add, lN_mul, nn_tb1, nI_bt, nn_and, nn_or, nn_xor, nn_shr, nn_1shl, nn_31, il_p, il_n, it_p, it_n, ie_p, ie_n, ie_b, ie_b1, ie_m, ie_mm, it_m, it_m0, il_m0, bI_rZ, Option.bind_some, bd2_some, Nat.add_zero, Nat.zero_add, if_true, if_false, Bool.false_eq_true, eq_self, hI_R, hJ_R, m4, e1], g', rfl, fg.tr f', r'⟩
    · rintro _ ⟨g, rfl, fg, hr⟩
      have lg := fg.lay hl
      have m4 : g.2.1 69 4 = nI n := (mn g fg).1
      have := mw.1
      exact ⟨g, by simp (disch := first | assumption | omega | decide | ((repeat first | apply lyI | apply lyJ | apply lywI | apply lywJ | apply csI | apply csJ | apply cswI | apply cswJ); assumption)) only [f_X3_rebuild_b70, f_X3_rebuild_j62, SH68, LI, ↓li_m1, nI_add, pk_mul, nn_sub, nn_m1, nn_div, nn_rem, nn_nz, nn_mod, nJ_l, lN_add, lN_mul, nn_tb1, nI_bt, nn_and, nn_or, nn_xor, nn_shr, nn_1shl, nn_31, il_p, il_n, it_p, it_n, ie_p, ie_n, ie_b, ie_b1, ie_m, ie_mm, it_m, it_m0, il_m0, bI_rZ, Option.bind_some, bd2_some, Nat.add_zero, Nat.zero_add, if_true, if_false, Bool.false_eq_true, eq_self, hI_R, hJ_R, m4], fg, hr⟩
  obtain ⟨h3, e3, f3, r3⟩ := e
  exact ⟨h3, by simp (disch := first | assumption | omega | decide | ((repeat first | apply lyI | apply lyJ | apply lywI | apply lywJ | apply csI | apply csJ | apply cswI | apply cswJ); assumption)) only [f_X3_rebuild, SH68, LI, ↓li_m1, nI_add, pk_mul, nn_sub, nn_m1, nn_div, nn_rem, nn_nz, nn_mod, nJ_l, lN_add, lN_mul, nn_tb1, nI_bt, nn_and, nn_or, nn_xor, nn_shr, nn_1shl, nn_31, il_p, il_n, it_p, it_n, ie_p, ie_n, ie_b, ie_b1, ie_m, ie_mm, it_m, it_m0, il_m0, bI_rZ, Option.bind_some, bd2_some, Nat.add_zero, Nat.zero_add, if_true, if_false, Bool.false_eq_true, eq_self, hI_R, hJ_R, e2', e3], f3, r3⟩
