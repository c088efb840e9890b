/-! ===== conditions, without a machine ===== -/
abbrev WS : Type := Nat → Bool
abbrev CR : Type := (Nat × Nat) ⊕ (Nat × WS)
/-- the worlds of a value -/
def vlB (A : Nat → Nat) (v : Nat) : WS := fun w => valN A w (A (8 + v)) == v
def jnB (op : Nat) (Y X : WS) : WS := fun w => if op = 11 then Y w && X w else Y w || X w
def ntB (X : WS) : WS := fun w => !X w
/-- as the class reads them -/
def pBL (T : Nat → Nat) (n : Nat) (p : Nat → CR) : Nat → Nat → WS → CR
  | 0, i, S => .inr (i, S)
  | g + 1, i, S => if tcI T n i = 19 then (match p (i + 1) with | .inl e => .inl e | .inr (i', S') => pBL T n p g i' (jnB 11 S S')) else .inr (i, S)
def pBo (T : Nat → Nat) (n : Nat) (p : Nat → CR) (i : Nat) : CR := match p i with
  | .inl e => .inl e
  | .inr (i', S) => pBL T n p 901 i' S
def pEL (T : Nat → Nat) (n : Nat) (b : Nat → CR) : Nat → Nat → WS → CR
  | 0, i, S => .inr (i, S)
  | g + 1, i, S => if tcI T n i = 18 then (match b (i + 1) with | .inl e => .inl e | .inr (i', S') => pEL T n b g i' (jnB 10 S S')) else .inr (i, S)
def pEi (T : Nat → Nat) (n : Nat) (p : Nat → CR) (i : Nat) : CR := match pBo T n p i with
  | .inl e => .inl e
  | .inr (i', S) => pEL T n (pBo T n p) 901 i' S
def pOn (T : Nat → Nat) (n : Nat) (A C : Nat → Nat) (V : Nat → List Nat) : Nat → Nat → Nat → CR
  | 0, _, _ => .inl (0, 0)
  | f + 1, lv, i => if tcI T n i = 20 then (if lv < 6 then (match pOn T n A C V f (lv + 1) (i + 1) with | .inl e => .inl e | .inr (i', S) => .inr (i', ntB S)) else .inl (7, frI T n i)) else if tcI T n i = 4 then (if lv < 6 then (match pEi T n (pOn T n A C V f (lv + 1)) (i + 1) with | .inl e => .inl e | .inr (i', S) => if tcI T n i' = 5 then .inr (i' + 1, S) else .inl (fkN T n i' 2, frI T n i')) else .inl (7, frI T n i)) else match nmO T n i C V 1 with
    | none => .inl (nmF T n i, frI T n i)
    | some v => .inr (i + 1, vlB A v)
abbrev GT : Type := Nat → Nat → List WS → List Nat → Nat → Prop
/-- the reference's steps, backwards: r is what it comes to -/
def CLO (T : Nat → Nat) (n : Nat) (A C : Nat → Nat) (V : Nat → List Nat) (r : CR) (G : GT) : Prop :=
  (∀ i Z D w, i < 900 → D.length < 50 → w < 6 → (tcI T n i = 20 → G 0 (i + 1) Z (12 :: D) (w + 1) → G 0 i Z D w) ∧ (tcI T n i = 4 → G 0 (i + 1) Z (40 :: D) (w + 1) → G 0 i Z D w)) ∧
  (∀ i Z D, (tcI T n i = 20 ∨ tcI T n i = 4) → r = .inl (7, frI T n i) → G 0 i Z D 6) ∧
  (∀ i Z D w, tcI T n i ≠ 20 → tcI T n i ≠ 4 → nmO T n i C V 1 = none → r = .inl (nmF T n i, frI T n i) → G 0 i Z D w) ∧
  (∀ i Z D w v, i < 900 → Z.length < 50 → tcI T n i ≠ 20 → tcI T n i ≠ 4 → nmO T n i C V 1 = some v → G 1 (i + 1) (vlB A v :: Z) D w → G 0 i Z D w) ∧
  (∀ i X Z D w, G 1 i (ntB X :: Z) D w → G 1 i (X :: Z) (12 :: D) (w + 1)) ∧
  (∀ i Z D w, D.head? ≠ some 12 → G 2 i Z D w → G 1 i Z D w) ∧
  (∀ i Z D w, tcI T n i = 5 → 40 ∈ D → G 3 i Z D w → G 2 i Z D w) ∧
  (∀ i Z D w, ¬ (tcI T n i = 5 ∧ 40 ∈ D) → G 4 i Z D w → G 2 i Z D w) ∧
  (∀ i X Y Z D w op, op = 10 ∨ op = 11 → G 3 i (jnB op Y X :: Z) D w → G 3 i (X :: Y :: Z) (op :: D) w) ∧
  (∀ i Z D w, i < 900 → tcI T n i = 5 → G 1 (i + 1) Z D w → G 3 i Z (40 :: D) (w + 1)) ∧
  (∀ i Z D w, tcI T n i = 18 ∨ tcI T n i = 19 → G 5 i Z D w → G 4 i Z D w) ∧
  (∀ i Z D w, tcI T n i ≠ 18 → tcI T n i ≠ 19 → 40 ∈ D → r = .inl (fkN T n i 2, frI T n i) → G 4 i Z D w) ∧
  (∀ i Z D w, tcI T n i ≠ 18 → tcI T n i ≠ 19 → 40 ∉ D → G 6 i Z D w → G 4 i Z D w) ∧
  (∀ i X Y Z D w op, tcI T n i = 18 ∨ tcI T n i = 19 → op = 11 ∨ (op = 10 ∧ tcI T n i = 18) → G 5 i (jnB op Y X :: Z) D w → G 5 i (X :: Y :: Z) (op :: D) w) ∧
  (∀ i Z D w, i < 900 → D.length < 50 → D.head? ≠ some 11 → (tcI T n i = 18 → D.head? ≠ some 10 → G 0 (i + 1) Z (10 :: D) w → G 5 i Z D w) ∧ (tcI T n i = 19 → G 0 (i + 1) Z (11 :: D) w → G 5 i Z D w)) ∧
  (∀ i X Y Z D w op, op = 10 ∨ op = 11 → G 6 i (jnB op Y X :: Z) D w → G 6 i (X :: Y :: Z) (op :: D) w) ∧
  (∀ i S w, r = .inr (i, S) → G 6 i [S] [] w)
/-- an operand stands there, the last ands pending or not -/
def KBf (G : GT) (lv i : Nat) (Z : List WS) (D : List Nat) (S : WS) : Prop := G 1 i (S :: Z) D lv ∧ ∀ B X, S = jnB 11 B X → G 1 i (X :: B :: Z) (11 :: D) lv
def KEf (G : GT) (lv i : Nat) (Z : List WS) (D : List Nat) (S : WS) : Prop := KBf G lv i Z D S ∧ ∀ O X, S = jnB 10 O X → KBf G lv i (O :: Z) (10 :: D) X
/-- what a reader of operands owes -/
def ONf (r : CR) (G : GT) (m lv : Nat) (p : Nat → CR) : Prop := ∀ i Z D, i ≤ m → D.length ≤ 3 * lv + 2 → Z.length ≤ 2 * lv + 2 → (∀ e, p i = .inl e → r = .inl e → G 0 i Z D lv) ∧ ∀ i' S, p i = .inr (i', S) → i < i' ∧ i' ≤ m ∧ (G 1 i' (S :: Z) D lv → G 0 i Z D lv)
def BOf (T : Nat → Nat) (n : Nat) (r : CR) (G : GT) (m lv : Nat) (b : Nat → CR) : Prop := ∀ i Z D, i ≤ m → D.length ≤ 3 * lv + 1 → Z.length ≤ 2 * lv + 1 → D.head? ≠ some 11 → D.head? ≠ some 12 → (∀ e, b i = .inl e → r = .inl e → G 0 i Z D lv) ∧ ∀ i' S, b i = .inr (i', S) → i < i' ∧ i' ≤ m ∧ tcI T n i' ≠ 19 ∧ (KBf G lv i' Z D S → G 0 i Z D lv)
def EIf (T : Nat → Nat) (n : Nat) (r : CR) (G : GT) (m lv : Nat) (b : Nat → CR) : Prop := ∀ i Z D, i ≤ m → D.length ≤ 3 * lv → Z.length ≤ 2 * lv → D.head? ≠ some 10 → D.head? ≠ some 11 → D.head? ≠ some 12 → (∀ e, b i = .inl e → r = .inl e → G 0 i Z D lv) ∧ ∀ i' S, b i = .inr (i', S) → i < i' ∧ i' ≤ m ∧ tcI T n i' ≠ 18 ∧ tcI T n i' ≠ 19 ∧ (KEf G lv i' Z D S → G 0 i Z D lv)
theorem hd_n {a b : Nat} {D : List Nat} (h : a ≠ b) : (a :: D).head? ≠ some b := fun e => h (Option.some.inj e)
theorem b_loop {T : Nat → Nat} {n : Nat} {A C : Nat → Nat} {V : Nat → List Nat} {r : CR} {G : GT} (cl : CLO T n A C V r G) {m : Nat} (hm : m ≤ 900) (ht : ∀ i, i ≤ m → 2 ≤ tcI T n i → i < m) {lv : Nat} (l6 : lv ≤ 6) {p : Nat → CR} (on : ONf r G m lv p) {Z : List WS} {D : List Nat} (d1 : D.length ≤ 3 * lv + 1) (z1 : Z.length ≤ 2 * lv + 1) (h11 : D.head? ≠ some 11) (h12 : D.head? ≠ some 12) : ∀ (g i : Nat) (S : WS), i ≤ m → m < i + g → (∀ e, pBL T n p g i S = .inl e → r = .inl e → KBf G lv i Z D S) ∧ ∀ i' S', pBL T n p g i S = .inr (i', S') → i ≤ i' ∧ i' ≤ m ∧ tcI T n i' ≠ 19 ∧ (KBf G lv i' Z D S' → KBf G lv i Z D S)
  | 0, i, S, hi, hg => absurd hg (by omega)
  | g + 1, i, S, hi, hg => by
    obtain ⟨c1, c2, c3, c4, c5, c6, c7, c8, c9, c10, c11, c12, c13, c14, c15, c16, c17⟩ := cl
    by_cases t : tcI T n i = 19
    · have him := ht i hi (by omega)
      have key : G 0 (i + 1) (S :: Z) (11 :: D) lv → KBf G lv i Z D S := fun g0 => by
        have y5 : G 5 i (S :: Z) D lv := (c15 i _ _ _ (by omega) (by omega) h11).2 t g0
        refine ⟨c6 i _ _ _ h12 (c8 i _ _ _ (fun e => by omega) (c11 i _ _ _ (Or.inr t) y5)), fun B X hS => ?_⟩
        subst hS
        exact c6 i _ _ _ (hd_n (by decide)) (c8 i _ _ _ (fun e => by omega) (c11 i _ _ _ (Or.inr t) (c14 i _ _ _ _ _ 11 (Or.inr t) (Or.inl rfl) y5)))
      have o1 := on (i + 1) (S :: Z) (11 :: D) (by omega) (by simp only [List.length_cons]; omega) (by simp only [List.length_cons]; omega)
      have e1 : pBL T n p (g + 1) i S = (match p (i + 1) with | .inl e => .inl e | .inr (i', S') => pBL T n p g i' (jnB 11 S S')) := if_pos t
      cases hp : p (i + 1) with
      | inl e0 =>
        rw [hp] at e1
        refine ⟨fun e he hr => ?_, fun i' S' he => ?_⟩
        · rw [e1] at he
          obtain rfl := Sum.inl.inj he
          exact key (o1.1 _ hp hr)
        · rw [e1] at he
          cases he
      | inr q =>
        obtain ⟨i2, S2⟩ := q
        rw [hp] at e1
        obtain ⟨q1, q2, q3⟩ := o1.2 i2 S2 hp
        obtain ⟨w1, w2⟩ := b_loop ⟨c1, c2, c3, c4, c5, c6, c7, c8, c9, c10, c11, c12, c13, c14, c15, c16, c17⟩ hm ht l6 on d1 z1 h11 h12 g i2 (jnB 11 S S2) q2 (by omega)
        refine ⟨fun e he hr => ?_, fun i' S' he => ?_⟩
        · rw [e1] at he
          exact key (q3 ((w1 e he hr).2 S S2 rfl))
        · rw [e1] at he
          obtain ⟨x1, x2, x3, x4⟩ := w2 i' S' he
          exact ⟨by omega, x2, x3, fun kb => key (q3 ((x4 kb).2 S S2 rfl))⟩
    · have e1 : pBL T n p (g + 1) i S = .inr (i, S) := if_neg t
      refine ⟨fun e he => ?_, fun i' S' he => ?_⟩
      · rw [e1] at he
        cases he
      · rw [e1] at he
        cases he
        exact ⟨Nat.le_refl i, hi, t, fun kb => kb⟩
theorem b_both {T : Nat → Nat} {n : Nat} {A C : Nat → Nat} {V : Nat → List Nat} {r : CR} {G : GT} (cl : CLO T n A C V r G) {m : Nat} (hm : m ≤ 900) (ht : ∀ i, i ≤ m → 2 ≤ tcI T n i → i < m) {lv : Nat} (l6 : lv ≤ 6) {p : Nat → CR} (on : ONf r G m lv p) : BOf T n r G m lv (pBo T n p) := fun i Z D hi d1 z1 h11 h12 => by
  have o1 := on i Z D hi (by omega) (by omega)
  cases hp : p i with
  | inl e0 =>
    have e1 : pBo T n p i = .inl e0 := by unfold pBo; rw [hp]
    refine ⟨fun e he hr => ?_, fun i' S' he => ?_⟩
    · rw [e1] at he
      obtain rfl := Sum.inl.inj he
      exact o1.1 _ hp hr
    · rw [e1] at he
      cases he
  | inr q =>
    obtain ⟨i2, S2⟩ := q
    have e1 : pBo T n p i = pBL T n p 901 i2 S2 := by unfold pBo; rw [hp]
    obtain ⟨q1, q2, q3⟩ := o1.2 i2 S2 hp
    obtain ⟨w1, w2⟩ := b_loop cl hm ht l6 on d1 z1 h11 h12 901 i2 S2 q2 (by omega)
    refine ⟨fun e he hr => ?_, fun i' S' he => ?_⟩
    · rw [e1] at he
      exact q3 (w1 e he hr).1
    · rw [e1] at he
      obtain ⟨x1, x2, x3, x4⟩ := w2 i' S' he
      exact ⟨by omega, x2, x3, fun kb => q3 (x4 kb).1⟩
theorem e_loop {T : Nat → Nat} {n : Nat} {A C : Nat → Nat} {V : Nat → List Nat} {r : CR} {G : GT} (cl : CLO T n A C V r G) {m : Nat} (hm : m ≤ 900) (ht : ∀ i, i ≤ m → 2 ≤ tcI T n i → i < m) {lv : Nat} (l6 : lv ≤ 6) {b : Nat → CR} (bo : BOf T n r G m lv b) {Z : List WS} {D : List Nat} (d1 : D.length ≤ 3 * lv) (z1 : Z.length ≤ 2 * lv) (h10 : D.head? ≠ some 10) (h11 : D.head? ≠ some 11) (h12 : D.head? ≠ some 12) : ∀ (g i : Nat) (S : WS), i ≤ m → m < i + g → tcI T n i ≠ 19 → (∀ e, pEL T n b g i S = .inl e → r = .inl e → KEf G lv i Z D S) ∧ ∀ i' S', pEL T n b g i S = .inr (i', S') → i ≤ i' ∧ i' ≤ m ∧ tcI T n i' ≠ 18 ∧ tcI T n i' ≠ 19 ∧ (KEf G lv i' Z D S' → KEf G lv i Z D S)
  | 0, i, S, hi, hg, _ => absurd hg (by omega)
  | g + 1, i, S, hi, hg, t19 => by
    obtain ⟨c1, c2, c3, c4, c5, c6, c7, c8, c9, c10, c11, c12, c13, c14, c15, c16, c17⟩ := cl
    by_cases t : tcI T n i = 18
    · have him := ht i hi (by omega)
      have key : G 0 (i + 1) (S :: Z) (10 :: D) lv → KEf G lv i Z D S := fun g0 => by
        have y5 : G 5 i (S :: Z) D lv := (c15 i _ _ _ (by omega) (by omega) h11).1 t h10 g0
        have up : ∀ Z' D', D'.head? ≠ some 12 → G 5 i Z' D' lv → G 1 i Z' D' lv := fun Z' D' hd g5 => c6 i _ _ _ hd (c8 i _ _ _ (fun e => by omega) (c11 i _ _ _ (Or.inl t) g5))
        refine ⟨⟨up _ _ h12 y5, fun B X hS => ?_⟩, fun O X hS => ⟨?_, fun B X' hX => ?_⟩⟩
        · subst hS
          exact up _ _ (hd_n (by decide)) (c14 i _ _ _ _ _ 11 (Or.inl t) (Or.inl rfl) y5)
        · subst hS
          exact up _ _ (hd_n (by decide)) (c14 i _ _ _ _ _ 10 (Or.inl t) (Or.inr ⟨rfl, t⟩) y5)
        · subst hX
          subst hS
          exact up _ _ (hd_n (by decide)) (c14 i _ _ _ _ _ 11 (Or.inl t) (Or.inl rfl) (c14 i _ _ _ _ _ 10 (Or.inl t) (Or.inr ⟨rfl, t⟩) y5))
      have o1 := bo (i + 1) (S :: Z) (10 :: D) (by omega) (by simp only [List.length_cons]; omega) (by simp only [List.length_cons]; omega) (hd_n (by decide)) (hd_n (by decide))
      have e1 : pEL T n b (g + 1) i S = (match b (i + 1) with | .inl e => .inl e | .inr (i', S') => pEL T n b g i' (jnB 10 S S')) := if_pos t
      cases hp : b (i + 1) with
      | inl e0 =>
        rw [hp] at e1
        refine ⟨fun e he hr => ?_, fun i' S' he => ?_⟩
        · rw [e1] at he
          obtain rfl := Sum.inl.inj he
          exact key (o1.1 _ hp hr)
        · rw [e1] at he
          cases he
      | inr q =>
        obtain ⟨i2, S2⟩ := q
        rw [hp] at e1
        obtain ⟨q1, q2, q4, q3⟩ := o1.2 i2 S2 hp
        obtain ⟨w1, w2⟩ := e_loop ⟨c1, c2, c3, c4, c5, c6, c7, c8, c9, c10, c11, c12, c13, c14, c15, c16, c17⟩ hm ht l6 bo d1 z1 h10 h11 h12 g i2 (jnB 10 S S2) q2 (by omega) q4
        refine ⟨fun e he hr => ?_, fun i' S' he => ?_⟩
        · rw [e1] at he
          exact key (q3 ((w1 e he hr).2 S S2 rfl))
        · rw [e1] at he
          obtain ⟨x1, x2, x3, x4, x5⟩ := w2 i' S' he
          exact ⟨by omega, x2, x3, x4, fun kb => key (q3 ((x5 kb).2 S S2 rfl))⟩
    · have e1 : pEL T n b (g + 1) i S = .inr (i, S) := if_neg t
      refine ⟨fun e he => ?_, fun i' S' he => ?_⟩
      · rw [e1] at he
        cases he
      · rw [e1] at he
        cases he
        exact ⟨Nat.le_refl i, hi, t, t19, fun kb => kb⟩
theorem b_either {T : Nat → Nat} {n : Nat} {A C : Nat → Nat} {V : Nat → List Nat} {r : CR} {G : GT} (cl : CLO T n A C V r G) {m : Nat} (hm : m ≤ 900) (ht : ∀ i, i ≤ m → 2 ≤ tcI T n i → i < m) {lv : Nat} (l6 : lv ≤ 6) {p : Nat → CR} (on : ONf r G m lv p) : EIf T n r G m lv (pEi T n p) := fun i Z D hi d1 z1 h10 h11 h12 => by
  have bo := b_both cl hm ht l6 on
  have o1 := bo i Z D hi (by omega) (by omega) h11 h12
  cases hp : pBo T n p i with
  | inl e0 =>
    have e1 : pEi T n p i = .inl e0 := by unfold pEi; rw [hp]
    refine ⟨fun e he hr => ?_, fun i' S' he => ?_⟩
    · rw [e1] at he
      obtain rfl := Sum.inl.inj he
      exact o1.1 _ hp hr
    · rw [e1] at he
      cases he
  | inr q =>
    obtain ⟨i2, S2⟩ := q
    have e1 : pEi T n p i = pEL T n (pBo T n p) 901 i2 S2 := by unfold pEi; rw [hp]
    obtain ⟨q1, q2, q4, q3⟩ := o1.2 i2 S2 hp
    obtain ⟨w1, w2⟩ := e_loop cl hm ht l6 bo d1 z1 h10 h11 h12 901 i2 S2 q2 (by omega) q4
    refine ⟨fun e he hr => ?_, fun i' S' he => ?_⟩
    · rw [e1] at he
      exact q3 (w1 e he hr).1
    · rw [e1] at he
      obtain ⟨x1, x2, x3, x4, x5⟩ := w2 i' S' he
      exact ⟨by omega, x2, x3, x4, fun kb => q3 (x5 kb).1⟩
theorem b_one {T : Nat → Nat} {n : Nat} {A C : Nat → Nat} {V : Nat → List Nat} {r : CR} {G : GT} (cl : CLO T n A C V r G) {m : Nat} (hm : m ≤ 900) (ht : ∀ i, i ≤ m → 2 ≤ tcI T n i → i < m) : ∀ (f lv : Nat), lv ≤ 6 → 7 ≤ f + lv → ONf r G m lv (pOn T n A C V f lv)
  | 0, lv, l6, h7 => absurd h7 (by omega)
  | f + 1, lv, l6, h7 => fun i Z D hi d1 z1 => by
    have cl' := cl
    obtain ⟨c1, c2, c3, c4, c5, c6, c7, c8, c9, c10, c11, c12, c13, c14, c15, c16, c17⟩ := cl
    by_cases t20 : tcI T n i = 20
    · have him := ht i hi (by omega)
      rcases Nat.lt_or_ge lv 6 with u | u
      · have o1 := b_one cl' hm ht f (lv + 1) (by omega) (by omega) (i + 1) Z (12 :: D) (by omega) (by simp only [List.length_cons]; omega) (by omega)
        have k1 : G 0 (i + 1) Z (12 :: D) (lv + 1) → G 0 i Z D lv := (c1 i Z D lv (by omega) (by omega) u).1 t20
        have e1 : pOn T n A C V (f + 1) lv i = (match pOn T n A C V f (lv + 1) (i + 1) with | .inl e => .inl e | .inr (i', S) => .inr (i', ntB S)) := by
          show (if tcI T n i = 20 then _ else _) = _
          rw [if_pos t20, if_pos u]
        cases hp : pOn T n A C V f (lv + 1) (i + 1) with
        | inl e0 =>
          rw [hp] at e1
          refine ⟨fun e he hr => ?_, fun i' S' he => ?_⟩
          · rw [e1] at he
            obtain rfl := Sum.inl.inj he
            exact k1 (o1.1 _ hp hr)
          · rw [e1] at he
            cases he
        | inr q =>
          obtain ⟨i2, S2⟩ := q
          rw [hp] at e1
          obtain ⟨q1, q2, q3⟩ := o1.2 i2 S2 hp
          refine ⟨fun e he hr => ?_, fun i' S' he => ?_⟩
          · rw [e1] at he
            cases he
          · rw [e1] at he
            cases he
            exact ⟨by omega, q2, fun g1 => k1 (q3 (c5 i2 S2 Z D lv g1))⟩
      · obtain rfl : lv = 6 := by omega
        have e1 : pOn T n A C V (f + 1) 6 i = .inl (7, frI T n i) := by
          show (if tcI T n i = 20 then _ else _) = _
          rw [if_pos t20, if_neg (by decide)]
        refine ⟨fun e he hr => ?_, fun i' S' he => ?_⟩
        · rw [e1] at he
          obtain rfl := Sum.inl.inj he
          exact c2 i Z D (Or.inl t20) hr
        · rw [e1] at he
          cases he
    · by_cases t4 : tcI T n i = 4
      · have him := ht i hi (by omega)
        rcases Nat.lt_or_ge lv 6 with u | u
        · have on := b_one cl' hm ht f (lv + 1) (by omega) (by omega)
          have o1 := b_either cl' hm ht (by omega) on (i + 1) Z (40 :: D) (by omega) (by simp only [List.length_cons]; omega) (by omega) (hd_n (by decide)) (hd_n (by decide)) (hd_n (by decide))
          have k1 : G 0 (i + 1) Z (40 :: D) (lv + 1) → G 0 i Z D lv := (c1 i Z D lv (by omega) (by omega) u).2 t4
          have e1 : pOn T n A C V (f + 1) lv i = (match pEi T n (pOn T n A C V f (lv + 1)) (i + 1) with | .inl e => .inl e | .inr (i', S) => if tcI T n i' = 5 then .inr (i' + 1, S) else .inl (fkN T n i' 2, frI T n i')) := by
            show (if tcI T n i = 20 then _ else _) = _
            rw [if_neg t20, if_pos t4, if_pos u]
          cases hp : pEi T n (pOn T n A C V f (lv + 1)) (i + 1) with
          | inl e0 =>
            rw [hp] at e1
            refine ⟨fun e he hr => ?_, fun i' S' he => ?_⟩
            · rw [e1] at he
              obtain rfl := Sum.inl.inj he
              exact k1 (o1.1 _ hp hr)
            · rw [e1] at he
              cases he
          | inr q =>
            obtain ⟨i2, S2⟩ := q
            rw [hp] at e1
            obtain ⟨q1, q2, q18, q19, q3⟩ := o1.2 i2 S2 hp
            by_cases t5 : tcI T n i2 = 5
            · have e2 : pOn T n A C V (f + 1) lv i = .inr (i2 + 1, S2) := e1.trans (if_pos t5)
              have him2 := ht i2 q2 (by omega)
              refine ⟨fun e he hr => ?_, fun i' S' he => ?_⟩
              · rw [e2] at he
                cases he
              · rw [e2] at he
                cases he
                refine ⟨by omega, by omega, fun g1 => k1 (q3 ?_)⟩
                have y3 : G 3 i2 (S2 :: Z) (40 :: D) (lv + 1) := c10 i2 _ _ _ (by omega) t5 g1
                have up : ∀ Z' D', D'.head? ≠ some 12 → 40 ∈ D' → G 3 i2 Z' D' (lv + 1) → G 1 i2 Z' D' (lv + 1) := fun Z' D' hd hm g3 => c6 i2 _ _ _ hd (c7 i2 _ _ _ t5 hm g3)
                refine ⟨⟨up _ _ (hd_n (by decide)) (by simp) y3, fun B X hS => ?_⟩, fun O X hS => ⟨?_, fun B X' hX => ?_⟩⟩
                · subst hS
                  exact up _ _ (hd_n (by decide)) (by simp) (c9 i2 _ _ _ _ _ 11 (Or.inr rfl) y3)
                · subst hS
                  exact up _ _ (hd_n (by decide)) (by simp) (c9 i2 _ _ _ _ _ 10 (Or.inl rfl) y3)
                · subst hX
                  subst hS
                  exact up _ _ (hd_n (by decide)) (by simp) (c9 i2 _ _ _ _ _ 11 (Or.inr rfl) (c9 i2 _ _ _ _ _ 10 (Or.inl rfl) y3))
            · have e2 : pOn T n A C V (f + 1) lv i = .inl (fkN T n i2 2, frI T n i2) := e1.trans (if_neg t5)
              refine ⟨fun e he hr => ?_, fun i' S' he => ?_⟩
              · rw [e2] at he
                obtain rfl := Sum.inl.inj he
                have up : ∀ Z' D', D'.head? ≠ some 12 → 40 ∈ D' → G 1 i2 Z' D' (lv + 1) := fun Z' D' hd hm => c6 i2 _ _ _ hd (c8 i2 _ _ _ (fun e => t5 e.1) (c12 i2 _ _ _ q18 q19 hm hr))
                refine k1 (q3 ⟨⟨up _ _ (hd_n (by decide)) (by simp), fun B X hS => up _ _ (hd_n (by decide)) (by simp)⟩, fun O X hS => ⟨up _ _ (hd_n (by decide)) (by simp), fun B X' hX => up _ _ (hd_n (by decide)) (by simp)⟩⟩)
              · rw [e2] at he
                cases he
        · obtain rfl : lv = 6 := by omega
          have e1 : pOn T n A C V (f + 1) 6 i = .inl (7, frI T n i) := by
            show (if tcI T n i = 20 then _ else _) = _
            rw [if_neg t20, if_pos t4, if_neg (by decide)]
          refine ⟨fun e he hr => ?_, fun i' S' he => ?_⟩
          · rw [e1] at he
            obtain rfl := Sum.inl.inj he
            exact c2 i Z D (Or.inr t4) hr
          · rw [e1] at he
            cases he
      · have e1 : pOn T n A C V (f + 1) lv i = (match nmO T n i C V 1 with | none => .inl (nmF T n i, frI T n i) | some v => .inr (i + 1, vlB A v)) := by
          show (if tcI T n i = 20 then _ else _) = _
          rw [if_neg t20, if_neg t4]
        cases hn : nmO T n i C V 1 with
        | none =>
          rw [hn] at e1
          refine ⟨fun e he hr => ?_, fun i' S' he => ?_⟩
          · rw [e1] at he
            obtain rfl := Sum.inl.inj he
            exact c3 i Z D lv t20 t4 hn hr
          · rw [e1] at he
            cases he
        | some v =>
          rw [hn] at e1
          have him := ht i hi (by have := (nm_6 hn).1; omega)
          refine ⟨fun e he hr => ?_, fun i' S' he => ?_⟩
          · rw [e1] at he
            cases he
          · rw [e1] at he
            cases he
            exact ⟨by omega, by omega, fun g1 => c4 i Z D lv v (by omega) (by omega) t20 t4 hn g1⟩
/-- the reference comes to what the class reads -/
theorem b_all {T : Nat → Nat} {n : Nat} {A C : Nat → Nat} {V : Nat → List Nat} {r : CR} {G : GT} (cl : CLO T n A C V r G) {m : Nat} (hm : m ≤ 900) (ht : ∀ i, i ≤ m → 2 ≤ tcI T n i → i < m) {i : Nat} (hi : i ≤ m) (hr : r = pEi T n (pOn T n A C V 8 0) i) : G 0 i [] [] 0 := by
  have o1 := b_either cl hm ht (by decide) (b_one cl hm ht 8 0 (by decide) (by decide)) i [] [] hi (by decide) (by decide) (by decide) (by decide) (by decide)
  obtain ⟨c1, c2, c3, c4, c5, c6, c7, c8, c9, c10, c11, c12, c13, c14, c15, c16, c17⟩ := cl
  cases hp : pEi T n (pOn T n A C V 8 0) i with
  | inl e0 => exact o1.1 _ hp (hr.trans hp)
  | inr q =>
    obtain ⟨i2, S2⟩ := q
    obtain ⟨q1, q2, q18, q19, q3⟩ := o1.2 i2 S2 hp
    have y6 : G 6 i2 [S2] [] 0 := c17 i2 S2 0 (hr.trans hp)
    have up : ∀ Z' D', D'.head? ≠ some 12 → 40 ∉ D' → G 6 i2 Z' D' 0 → G 1 i2 Z' D' 0 := fun Z' D' hd hm g6 => c6 i2 _ _ _ hd (c8 i2 _ _ _ (fun e => hm e.2) (c13 i2 _ _ _ q18 q19 hm g6))
    refine q3 ⟨⟨up _ _ (by decide) (by decide) y6, fun B X hS => ?_⟩, fun O X hS => ⟨?_, fun B X' hX => ?_⟩⟩
    · subst hS
      exact up _ _ (by decide) (by decide) (c16 i2 _ _ _ _ _ 11 (Or.inr rfl) y6)
    · subst hS
      exact up _ _ (by decide) (by decide) (c16 i2 _ _ _ _ _ 10 (Or.inl rfl) y6)
    · subst hX
      subst hS
      exact up _ _ (by decide) (by decide) (c16 i2 _ _ _ _ _ 11 (Or.inr rfl) (c16 i2 _ _ _ _ _ 10 (Or.inl rfl) y6))
