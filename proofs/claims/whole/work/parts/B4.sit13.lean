/-! ===== a sitting: the reference's loop ===== -/
def clB (K : Nat → Nat → Nat) (k : Nat) : Bool := K k 0 == 26
def sgK (K : Nat → Nat → Nat) (k : Nat) : Nat := cntB (fun j => !clB K j) k
/-- the plan's rows and the plan's steps say the same -/
def PK (A : Nat → Nat) (K : Nat → Nat → Nat) (N : Nat) (W F G B : Nat → Nat) (ns : Nat) : Prop := ns = sgK K N ∧ N ≤ 60 ∧ ns ≤ 30 ∧ ∀ k, k < N → clB K k = false → (K k 0 = 17 ∧ W (sgK K k) = 25 ∧ F (sgK K k) = K k 1 ∧ G (sgK K k) = K k 2 ∧ K k 1 < A 4 ∧ K k 2 < A 3) ∨ (K k 0 = 18 ∧ W (sgK K k) = 26 ∧ F (sgK K k) = K k 1 ∧ K k 1 < A 4) ∨ (K k 0 = 19 ∧ W (sgK K k) = 27) ∨ (K k 0 = 20 ∧ W (sgK K k) = 28 ∧ F (sgK K k) = K k 2 ∧ K k 2 < A 3) ∨ (∃ x, x < 4 ∧ K k 0 = 2122 + x ∧ W (sgK K k) = 30 + x ∧ F (sgK K k) = K k 1 ∧ (x < 3 → K k 1 < A 3) ∧ K k 1 ≤ 256 ∧ k < K k 3 ∧ K k 3 < N ∧ clB K (K k 3) = true ∧ B (sgK K k) = sgK K (K k 3))
theorem sg_t {K : Nat → Nat → Nat} {k : Nat} (h : clB K k = false) : sgK K (k + 1) = sgK K k + 1 := cntB_t (by rw [h]; rfl)
theorem sg_f {K : Nat → Nat → Nat} {k : Nat} (h : clB K k = true) : sgK K (k + 1) = sgK K k := cntB_f (by rw [h]; rfl)
/-- steps below the one that counts are passed over -/
theorem rc_skip {A : Nat → Nat} {P : Nat → Bool} {Q : Nat → Nat → Bool} {S : Nat → Nat → Nat → Nat → Nat} {tr : Nat} {tk : Nat → Nat} {W F G B : Nat → Nat} {t0 : MT} {s fr : Nat} {t : MT} (h : rcS A P Q S tr tk W F G B t0 s = .inl (fr, t)) : ∀ n, s + n ≤ fr → rcS A P Q S tr tk W F G B t0 (s + n) = .inl (fr, t)
  | 0, _ => h
  | n + 1, hn => by
    have ih := rc_skip h n (by omega)
    show rcS A P Q S tr tk W F G B t0 (s + n + 1) = _
    rw [rc_s ih, if_pos (by omega)]
