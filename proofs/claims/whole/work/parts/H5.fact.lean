/-! ===== cases: facts, without a machine ===== -/
def upN (A : Nat → Nat) (j x : Nat) : Nat → Nat := fun y => if y = j then x else A y
theorem up_e {A : Nat → Nat} {j x : Nat} : upN A j x j = x := if_pos rfl
theorem up_n {A : Nat → Nat} {j x y : Nat} (h : y ≠ j) : upN A j x y = A y := if_neg h
/-- a value more, of the fact f, of weight g -/
def vA (A : Nat → Nat) (f g : Nat) : Nat → Nat := fun y => if y = 1 then A 1 + 1 else if y = 8 + A 1 then f else if y = 32 + A 1 then g else A y
/-- the reference counts the fact ahead of its values -/
def gA (A : Nat → Nat) (f a : Nat) : Nat → Nat := fun y => if y = 0 then f + 1 else if y = 56 + f then a else A y
def nV (V : Nat → List Nat) (A : Nat → Nat) (w : List Nat) : Nat → List Nat := upV V (nbN 1 + A 1) w
abbrev FO : Type := (Nat × Nat) ⊕ (Nat × Nat × (Nat → Nat) × (Nat → List Nat))
def fL (T : Nat → Nat) (n f : Nat) : Nat → Nat → Nat → (Nat → Nat) → (Nat → List Nat) → FO
  | 0, _, _, _, _ => .inl (1, 0)
  | g + 1, x, j, A, V => if x ≠ 0 ∧ tcI T n j = 3 then .inr (j, x, A, V) else if nwB T n j (upC (cA A) 0) V = false then .inl (nmF T n j, frI T n j) else if x = 6 then .inl (6, frI T n j) else if tcI T n (j + 1) = 2 then (if 1 ≤ nuI T n (j + 1) ∧ nuI T n (j + 1) ≤ 9 then fL T n f g (x + 1) (j + 2) (vA A f (nuI T n (j + 1))) (nV V A (wdI T n j)) else .inl (fkN T n (j + 1) 4, frI T n (j + 1))) else fL T n f g (x + 1) (j + 1) (vA A f 1) (nV V A (wdI T n j))
/-- the fact is closed: a where its values begin, x how many -/
def cF (A : Nat → Nat) (f a x : Nat) : Nat → Nat := fun y => if y = 0 then f + 1 else if y = 2 then A 2 * x else if y = 56 + f then a else if y = 60 + f then x else A y
def fO (T : Nat → Nat) (n i : Nat) (A : Nat → Nat) (V : Nat → List Nat) (Bv : Nat → Nat) (Q : Nat → Nat → Bool) : OD :=
  if A 0 = 4 then .inl (6, frI T n i)
  else if 0 < A 3 then .inl (7, frI T n i)
  else if nwB T n (i + 1) (cA A) V = false then .inl (nmF T n (i + 1), frI T n (i + 1))
  else if tcI T n (i + 2) ≠ 9 then .inl (fkN T n (i + 2) 2, frI T n (i + 2))
  else match fL T n (A 0) 7 0 (i + 3) A (upV V (nbN 0 + cA A 0) (wdI T n (i + 1))) with
    | .inl e => .inl e
    | .inr (j, x, A', V') => if x < 2 ∨ 256 < A 2 * x then .inl (8, frI T n j) else .inr (j + 1, cF A' (A 0) (A 1) x, V', Bv, Q)
theorem sq_6 {A : Nat → Nat} (sq : SQa A) (wf : WF A) : A 1 ≤ 6 * A 0 := by
  have h := wf.1.2.2.2.2
  have h4 := wf.1.1
  have h0 := fun e : 0 < A 0 => (h 0 e).2.1
  have h1 := fun e : 1 < A 0 => (h 1 e).2.1
  have h2 := fun e : 2 < A 0 => (h 2 e).2.1
  have h3 := fun e : 3 < A 0 => (h 3 e).2.1
  have s0 := sq.2.1 0
  have s1 := sq.2.1 1
  have s2 := sq.2.1 2
  have t0 := sq.2.2 0
  have t1 := sq.2.2 1
  have t2 := sq.2.2 2
  have t3 := sq.2.2 3
  have z := sq.1.1
  have z' := sq.1.2
  simp only [Nat.add_zero, Nat.zero_add, Nat.reduceAdd] at *
  have c : A 0 = 0 ∨ A 0 = 1 ∨ A 0 = 2 ∨ A 0 = 3 ∨ A 0 = 4 := by omega
  rcases c with c | c | c | c | c
  · have := z c
    omega
  · have := t0 (by omega)
    have := z' (by omega)
    have := h0 (by omega)
    omega
  · have := t1 (by omega)
    have := s0 (by omega)
    have := z' (by omega)
    have := h0 (by omega)
    have := h1 (by omega)
    omega
  · have := t2 (by omega)
    have := s0 (by omega)
    have := s1 (by omega)
    have := z' (by omega)
    have := h0 (by omega)
    have := h1 (by omega)
    have := h2 (by omega)
    omega
  · have := t3 (by omega)
    have := s0 (by omega)
    have := s1 (by omega)
    have := s2 (by omega)
    have := z' (by omega)
    have := h0 (by omega)
    have := h1 (by omega)
    have := h2 (by omega)
    have := h3 (by omega)
    omega
/-- what the values read so far are: x of them, behind A's -/
def FXa (A A' : Nat → Nat) (x : Nat) : Prop := A' 1 = A 1 + x ∧ (∀ v, A 1 ≤ v → v < A 1 + x → A' (8 + v) = A 0 ∧ 1 ≤ A' (32 + v) ∧ A' (32 + v) ≤ 9) ∧ ∀ y, y ≠ 1 → ¬ (8 + A 1 ≤ y ∧ y < 8 + A 1 + x) → ¬ (32 + A 1 ≤ y ∧ y < 32 + A 1 + x) → A' y = A y
theorem fx_0 {A : Nat → Nat} : FXa A A 0 := ⟨rfl, fun v h1 h2 => absurd h2 (by omega), fun _ _ _ _ => rfl⟩
theorem fx_s {A A' : Nat → Nat} {x g : Nat} (b : A 1 + x < 24) (fx : FXa A A' x) (g1 : 1 ≤ g) (g9 : g ≤ 9) : FXa A (vA A' (A 0) g) (x + 1) := by
  obtain ⟨f1, f2, f3⟩ := fx
  refine ⟨?_, fun v h1 h2 => ?_, fun y h1 h2 h3 => ?_⟩
  · unfold vA
    rw [if_pos rfl, f1]
    rfl
  · by_cases e : v = A' 1
    · subst e
      unfold vA
      rw [if_neg (by omega), if_pos rfl, if_neg (by omega), if_neg (by omega), if_pos rfl]
      exact ⟨rfl, g1, g9⟩
    · unfold vA
      rw [if_neg (by omega), if_neg (by omega), if_neg (by omega), if_neg (by omega), if_neg (by omega), if_neg (by omega)]
      exact f2 v h1 (by omega)
  · unfold vA
    rw [if_neg h1, if_neg (by omega), if_neg (by omega)]
    exact f3 y h1 (by omega) (by omega)
theorem nw_6 {T : Nat → Nat} {n i : Nat} {C : Nat → Nat} {V : Nat → List Nat} (hb : nwB T n i C V = true) : tcI T n i = 6 ∧ tkB C V (wdI T n i) = false := by
  unfold nwB at hb
  rw [Bool.and_eq_true, decide_eq_true_eq, Bool.not_eq_true'] at hb
  exact hb
theorem nw_f {T : Nat → Nat} {n i : Nat} {C : Nat → Nat} {V : Nat → List Nat} (hb : nwB T n i C V = false) (t : tcI T n i = 6) : tkB C V (wdI T n i) = true := by
  unfold nwB at hb
  rw [decide_eq_true t, Bool.true_and] at hb
  simpa using hb
/-- names of the fact under way -/
theorem up01 {A : Nat → Nat} {f g : Nat} (hf : A 1 < 24) : upC (upC (cA A) 0) 1 = upC (cA (vA A f g)) 0 := by
  funext s
  have e0 : vA A f g 0 = A 0 := by unfold vA; rw [if_neg (by decide), if_neg (by omega), if_neg (by omega)]
  have e1 : vA A f g 1 = A 1 + 1 := if_pos rfl
  have e3 : vA A f g 3 = A 3 := by unfold vA; rw [if_neg (by decide), if_neg (by omega), if_neg (by omega)]
  have e4 : vA A f g 4 = A 4 := by unfold vA; rw [if_neg (by decide), if_neg (by omega), if_neg (by omega)]
  unfold upC cA
  rw [e0, e1, e3, e4]
  by_cases h0 : s = 0
  · subst h0
    rfl
  · by_cases h1 : s = 1
    · subst h1
      rfl
    · rw [if_neg h1, if_neg h0, if_neg h0, if_neg h0, if_neg h1, if_neg h0, if_neg h1]
theorem nv_1 {A : Nat → Nat} {V : Nat → List Nat} {T : Nat → Nat} {n j f g : Nat} (nv : NV (upC (cA A) 0) V) (hA : A 1 < 24) (hb : nwB T n j (upC (cA A) 0) V = true) : NV (upC (cA (vA A f g)) 0) (nV V A (wdI T n j)) := by
  obtain ⟨h1, h2⟩ := nw_6 hb
  have e : upC (cA A) 0 1 = A 1 := rfl
  have := (nv_up nv (wd_vd h1) (s := 1) (by decide) (by rw [e]; exact hA) h2).1
  rw [up01 (f := f) (g := g) hA] at this
  exact this
/-- what the loop hands on -/
theorem fl_ok {T : Nat → Nat} {n : Nat} {A : Nat → Nat} (a18 : A 1 ≤ 18) : ∀ (g x j : Nat) (A' : Nat → Nat) (V' : Nat → List Nat), x + g = 7 → FXa A A' x → NV (upC (cA A') 0) V' → ∀ j' x' A1 V1, fL T n (A 0) g x j A' V' = .inr (j', x', A1, V1) → j ≤ j' ∧ x' ≤ 6 ∧ FXa A A1 x' ∧ NV (upC (cA A1) 0) V1 ∧ tcI T n j' = 3
  | 0, x, j, A', V', hx, fx, nv, j', x', A1, V1, e => by cases e
  | g + 1, x, j, A', V', hx, fx, nv, j', x', A1, V1, e => by
    unfold fL at e
    by_cases h1 : x ≠ 0 ∧ tcI T n j = 3
    · rw [if_pos h1] at e
      cases e
      exact ⟨Nat.le_refl _, by omega, fx, nv, h1.2⟩
    · rw [if_neg h1] at e
      cases hb : nwB T n j (upC (cA A') 0) V' with
      | false => rw [if_pos hb] at e; cases e
      | true =>
        rw [if_neg (by rw [hb]; decide)] at e
        by_cases h6 : x = 6
        · rw [if_pos h6] at e; cases e
        · rw [if_neg h6] at e
          have b := fx.1
          by_cases h2 : tcI T n (j + 1) = 2
          · rw [if_pos h2] at e
            by_cases h9 : 1 ≤ nuI T n (j + 1) ∧ nuI T n (j + 1) ≤ 9
            · rw [if_pos h9] at e
              obtain ⟨y1, y2⟩ := fl_ok a18 g (x + 1) (j + 2) _ _ (by omega) (fx_s (by omega) fx h9.1 h9.2) (nv_1 nv (by omega) hb) j' x' A1 V1 e
              exact ⟨by omega, y2⟩
            · rw [if_neg h9] at e; cases e
          · rw [if_neg h2] at e
            obtain ⟨y1, y2⟩ := fl_ok a18 g (x + 1) (j + 1) _ _ (by omega) (fx_s (by omega) fx (by decide) (by decide)) (nv_1 nv (by omega) hb) j' x' A1 V1 e
            exact ⟨by omega, y2⟩
theorem fO_lt {T : Nat → Nat} {n i : Nat} {A : Nat → Nat} {V : Nat → List Nat} {Bv : Nat → Nat} {Q : Nat → Nat → Bool} (dv : DV A V Bv Q) {i' : Nat} {r : (Nat → Nat) × (Nat → List Nat) × (Nat → Nat) × (Nat → Nat → Bool)} (e : fO T n i A V Bv Q = .inr (i', r)) : i < i' := by
  have s6 := sq_6 dv.2.2.2.2.2.2.2.2 dv.1
  have h4 := dv.1.1.1
  unfold fO at e
  by_cases h0 : A 0 = 4
  · rw [if_pos h0] at e; cases e
  rw [if_neg h0] at e
  by_cases h3 : 0 < A 3
  · rw [if_pos h3] at e; cases e
  rw [if_neg h3] at e
  cases hb : nwB T n (i + 1) (cA A) V with
  | false => rw [if_pos hb] at e; cases e
  | true =>
    rw [if_neg (by rw [hb]; decide)] at e
    by_cases h9 : tcI T n (i + 2) = 9
    · rw [if_neg (fun q => q h9)] at e
      cases hf : fL T n (A 0) 7 0 (i + 3) A (upV V (nbN 0 + cA A 0) (wdI T n (i + 1))) with
      | inl q => rw [hf] at e; cases e
      | inr q =>
        obtain ⟨j, x, A', V'⟩ := q
        rw [hf] at e
        obtain ⟨h1, h2⟩ := nw_6 hb
        have nv0 : NV (upC (cA A) 0) (upV V (nbN 0 + cA A 0) (wdI T n (i + 1))) := (nv_up dv.2.1 (wd_vd h1) (s := 0) (by decide) (show A 0 < 4 by omega) h2).1
        have y := (fl_ok (by omega) 7 0 (i + 3) A _ rfl fx_0 nv0 j x A' V' hf).1
        have e' : (if x < 2 ∨ 256 < A 2 * x then (Sum.inl (8, frI T n j) : OD) else .inr (j + 1, cF A' (A 0) (A 1) x, V', Bv, Q)) = .inr (i', r) := e
        by_cases h8 : x < 2 ∨ 256 < A 2 * x
        · rw [if_pos h8] at e'; cases e'
        · rw [if_neg h8] at e'
          cases e'
          omega
    · rw [if_pos h9] at e; cases e
theorem cf_v {A' : Nat → Nat} {f a x : Nat} : cF A' f a x 0 = f + 1 ∧ cF A' f a x 2 = A' 2 * x ∧ cF A' f a x (56 + f) = a ∧ cF A' f a x (60 + f) = x := by
  unfold cF
  refine ⟨if_pos rfl, ?_, ?_, ?_⟩
  · rw [if_neg (by decide), if_pos rfl]
  · rw [if_neg (by omega), if_neg (by omega), if_pos rfl]
  · rw [if_neg (by omega), if_neg (by omega), if_neg (by omega), if_pos rfl]
theorem cf_n {A' : Nat → Nat} {f a x y : Nat} (h0 : y ≠ 0) (h2 : y ≠ 2) (h5 : y ≠ 56 + f) (h6 : y ≠ 60 + f) : cF A' f a x y = A' y := by
  unfold cF
  rw [if_neg h0, if_neg h2, if_neg h5, if_neg h6]
theorem cf_cA {A' : Nat → Nat} {f a x : Nat} (h : A' 0 = f) : cA (cF A' f a x) = upC (cA A') 0 := by
  funext s
  have e1 : cF A' f a x 1 = A' 1 := cf_n (by decide) (by decide) (by omega) (by omega)
  have e3 : cF A' f a x 3 = A' 3 := cf_n (by decide) (by decide) (by omega) (by omega)
  have e4 : cF A' f a x 4 = A' 4 := cf_n (by decide) (by decide) (by omega) (by omega)
  unfold upC cA
  rw [cf_v.1, e1, e3, e4]
  by_cases h0 : s = 0
  · subst h0
    rw [if_pos rfl, if_pos rfl, if_pos rfl, h]
  · rw [if_neg h0, if_neg h0, if_neg h0]
theorem st_up {A B : Nat → Nat} {t : Nat} (h : ∀ f, f < t → B (60 + f) = A (60 + f)) : ∀ n, n ≤ t → stM B (t + 1) (n + 1) = stM A t n * B (60 + t)
  | 0, _ => by
    show 1 * B (60 + (t + 1 - 1 - 0)) = 1 * B (60 + t)
    rfl
  | n + 1, hn => by
    show stM B (t + 1) (n + 1) * B (60 + (t + 1 - 1 - (n + 1))) = stM A t n * A (60 + (t - 1 - n)) * B (60 + t)
    rw [st_up h n (by omega), show t + 1 - 1 - (n + 1) = t - 1 - n by omega, h (t - 1 - n) (by omega), Nat.mul_assoc, Nat.mul_assoc, Nat.mul_comm (B (60 + t))]
/-- a case with one fact more is a case -/
theorem dv_f {A : Nat → Nat} {V V' : Nat → List Nat} {Bv A' : Nat → Nat} {Q : Nat → Nat → Bool} {x : Nat} (dv : DV A V Bv Q) (h4 : A 0 < 4) (h3 : A 3 = 0) (fx : FXa A A' x) (nv : NV (upC (cA A') 0) V') (x2 : 2 ≤ x) (x6 : x ≤ 6) (w : A 2 * x ≤ 256) : DV (cF A' (A 0) (A 1) x) V' Bv Q := by
  obtain ⟨z1, z2, z3, z4, z5, z6, z7, z8, z9⟩ := dv
  have s6 := sq_6 z9 z1
  obtain ⟨f1, f2, f3⟩ := fx
  have lo : ∀ y, y < 8 → y ≠ 1 → A' y = A y := fun y h1 h2 => f3 y h2 (by omega) (by omega)
  have hi : ∀ y, 56 ≤ y → A' y = A y := fun y h1 => f3 y (by omega) (by omega) (by omega)
  have vlo : ∀ v, v < A 1 → A' (8 + v) = A (8 + v) ∧ A' (32 + v) = A (32 + v) := fun v hv => ⟨f3 _ (by omega) (by omega) (by omega), f3 _ (by omega) (by omega) (by omega)⟩
  have c : ∀ y, y ≠ 0 → y ≠ 2 → y ≠ 56 + A 0 → y ≠ 60 + A 0 → cF A' (A 0) (A 1) x y = A' y := fun y h0 h2 h5 h6 => cf_n h0 h2 h5 h6
  obtain ⟨v0, v2, v5, v6⟩ := cf_v (A' := A') (f := A 0) (a := A 1) (x := x)
  have c1 : cF A' (A 0) (A 1) x 1 = A 1 + x := by rw [c 1 (by decide) (by decide) (by omega) (by omega), f1]
  have c2 : cF A' (A 0) (A 1) x 2 = A 2 * x := by rw [v2, lo 2 (by decide) (by decide)]
  have c3 : cF A' (A 0) (A 1) x 3 = 0 := by rw [c 3 (by decide) (by decide) (by omega) (by omega), lo 3 (by decide) (by decide), h3]
  have c4 : cF A' (A 0) (A 1) x 4 = A 4 := by rw [c 4 (by decide) (by decide) (by omega) (by omega), lo 4 (by decide) (by decide)]
  have cw : ∀ y, 64 ≤ y → cF A' (A 0) (A 1) x y = A y := fun y hy => by rw [c y (by omega) (by omega) (by omega) (by omega), hi y (by omega)]
  have c56 : ∀ g, g < A 0 → cF A' (A 0) (A 1) x (56 + g) = A (56 + g) ∧ cF A' (A 0) (A 1) x (60 + g) = A (60 + g) := fun g hg => ⟨by rw [c _ (by omega) (by omega) (by omega) (by omega), hi _ (by omega)], by rw [c _ (by omega) (by omega) (by omega) (by omega), hi _ (by omega)]⟩
  have cv : ∀ v, v < 24 → cF A' (A 0) (A 1) x (8 + v) = A' (8 + v) ∧ cF A' (A 0) (A 1) x (32 + v) = A' (32 + v) := fun v hv => ⟨c _ (by omega) (by omega) (by omega) (by omega), c _ (by omega) (by omega) (by omega) (by omega)⟩
  have w2 : 1 ≤ A 2 := z1.1.2.2.1
  have wfx : ∀ f, f < A 0 + 1 → 2 ≤ cF A' (A 0) (A 1) x (60 + f) ∧ cF A' (A 0) (A 1) x (60 + f) ≤ 6 ∧ cF A' (A 0) (A 1) x (56 + f) + cF A' (A 0) (A 1) x (60 + f) ≤ A 1 + x := fun f hf => by
    by_cases e : f = A 0
    · rw [e, v5, v6]
      exact ⟨x2, x6, Nat.le_refl _⟩
    · have q := z1.1.2.2.2.2 f (by omega)
      rw [(c56 f (by omega)).1, (c56 f (by omega)).2]
      exact ⟨q.1, q.2.1, by omega⟩
  refine ⟨⟨⟨by rw [v0]; omega, by rw [c1]; omega, ?_, by rw [c2]; exact w, fun f hf => ?_⟩, by rw [c3]; decide, by rw [c4]; exact z1.2.2.1, fun v hv => ?_, fun q hq => ?_, fun v hv => ?_⟩, ?_, ?_, z4, fun v k hv h4' hk => ?_, fun q w' hq => ?_, ?_, fun f y hf hy => ?_, ⟨⟨fun h => ?_, fun h => ?_⟩, fun f hf => ?_, fun f hf => ?_⟩⟩
  · rw [c2]
    exact Nat.mul_pos w2 (by omega)
  · rw [v0] at hf
    rw [c1]
    exact wfx f hf
  · rw [c1] at hv
    rw [(cv v (by omega)).1, (cv v (by omega)).2, v0]
    rcases Nat.lt_or_ge v (A 1) with u | u
    · have q := z1.2.2.2.1 v u
      rw [(vlo v u).1, (vlo v u).2]
      exact ⟨by omega, q.2⟩
    · obtain ⟨y1, y2⟩ := f2 v u hv
      rw [y1]
      exact ⟨by omega, y2⟩
  · rw [c3] at hq
    exact absurd hq (by omega)
  · rw [c4] at hv
    have q := z1.2.2.2.2.2 v hv
    have e : ∀ k, cF A' (A 0) (A 1) x (76 + 6 * v + k) = A (76 + 6 * v + k) := fun k => cw _ (by omega)
    refine ⟨fun k hk => by rw [e]; exact q.1 k hk, ?_, by rw [e]; exact q.2.2.1, by rw [e]; exact q.2.2.2⟩
    show 0 + cF A' (A 0) (A 1) x (76 + 6 * v + 0) + cF A' (A 0) (A 1) x (76 + 6 * v + 1) + cF A' (A 0) (A 1) x (76 + 6 * v + 2) + cF A' (A 0) (A 1) x (76 + 6 * v + 3) = 16
    rw [e, e, e, e]
    exact q.2.1
  · rw [cf_cA (lo 0 (by decide) (by decide))]
    exact nv
  · rw [c2, v0, st_up (A := A) (t := A 0) (fun f hf => (c56 f hf).2) (A 0) (Nat.le_refl _), v6, ← z3]
  · rw [c4] at hv
    rw [cw _ (by omega)]
    exact z5 v k hv h4' hk
  · have := z6 q w' hq
    omega
  · rw [c 5 (by decide) (by decide) (by omega) (by omega), c 6 (by decide) (by decide) (by omega) (by omega), lo 5 (by decide) (by decide), lo 6 (by decide) (by decide)]
    exact z7
  · rw [v0] at hf
    by_cases e : f = A 0
    · rw [e] at hy ⊢
      rw [v6] at hy
      rw [v5, (cv (A 1 + y) (by omega)).1]
      exact (f2 (A 1 + y) (by omega) (by omega)).1
    · rw [(c56 f (by omega)).2] at hy
      have q := z1.1.2.2.2.2 f (by omega)
      rw [(c56 f (by omega)).1, (cv (A (56 + f) + y) (by omega)).1, (vlo (A (56 + f) + y) (by omega)).1]
      exact z8 f y (by omega) hy
  · rw [v0] at h
    omega
  · by_cases e : A 0 = 0
    · have q := z9.1.1 e
      have := v5
      rw [e] at this
      rw [q] at this
      rw [e, q]
      exact this
    · have := (c56 0 (by omega)).1
      rw [show 56 + 0 = 56 from rfl] at this
      rw [this]
      exact z9.1.2 (by omega)
  · rw [v0] at hf
    by_cases e : f + 1 = A 0
    · rw [(c56 f (by omega)).1, (c56 f (by omega)).2, e, v5]
      exact z9.2.2 f e
    · rw [(c56 f (by omega)).1, (c56 f (by omega)).2, (c56 (f + 1) (by omega)).1]
      exact z9.2.1 f (by omega)
  · rw [v0] at hf
    have e : f = A 0 := by omega
    rw [e, v5, v6, c1]
