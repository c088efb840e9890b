/-! ===== cases: witnesses, without a machine ===== -/
/-- names up to a token -/
def tN (T : Nat → Nat) (n : Nat) (C : Nat → Nat) (V : Nat → List Nat) (s up : Nat) : Nat → Nat → Nat → Nat → (Nat × Nat) ⊕ (Nat × Nat)
  | 0, _, j, S => .inr (j, S)
  | g + 1, x, j, S => if x ≠ 0 ∧ tcI T n j = up then .inr (j, S) else match nmO T n j C V s with
    | none => .inl (nmF T n j, frI T n j)
    | some a => if S.testBit a = true then .inl (5, frI T n j) else tN T n C V s up g (x + 1) (j + 1) (S ||| 2 ^ a)
theorem tN_ok {T : Nat → Nat} {n : Nat} {C : Nat → Nat} {V : Nat → List Nat} {s up m b : Nat} (hm : m ≤ 900) (ht : ∀ i, i ≤ m → 2 ≤ tcI T n i → i < m) (hb : C s ≤ b) : ∀ (g x j S : Nat), j ≤ m → m < j + g → S < 2 ^ b → ∀ j' S', tN T n C V s up g x j S = .inr (j', S') → j ≤ j' ∧ j' ≤ m ∧ tcI T n j' = up ∧ S' < 2 ^ b
  | 0, x, j, S, hj, hg, hS, j', S', e => absurd hg (by omega)
  | g + 1, x, j, S, hj, hg, hS, j', S', e => by
    unfold tN at e
    by_cases h1 : x ≠ 0 ∧ tcI T n j = up
    · rw [if_pos h1] at e
      cases e
      exact ⟨Nat.le_refl _, hj, h1.2, hS⟩
    · rw [if_neg h1] at e
      cases hn : nmO T n j C V s with
      | none => rw [hn] at e; cases e
      | some a =>
        rw [hn] at e
        have e' : (if S.testBit a = true then (Sum.inl (5, frI T n j) : (Nat × Nat) ⊕ (Nat × Nat)) else tN T n C V s up g (x + 1) (j + 1) (S ||| 2 ^ a)) = .inr (j', S') := e
        by_cases hb' : S.testBit a = true
        · rw [if_pos hb'] at e'; cases e'
        · rw [if_neg hb'] at e'
          obtain ⟨n1, n2⟩ := nm_6 hn
          have := ht j hj (by omega)
          obtain ⟨y1, y2⟩ := tN_ok hm ht hb g (x + 1) (j + 1) (S ||| 2 ^ a) (by omega) (by omega) (Nat.or_lt_two_pow hS (Nat.pow_lt_pow_right (by decide) (by omega))) j' S' e'
          exact ⟨by omega, y2⟩
def kdB (t : Nat) : Bool := decide (21 ≤ t) && decide (t ≤ 24)
/-- kinds and how many sixteenths -/
def kN (T : Nat → Nat) (n : Nat) : Nat → Nat → Nat → (Nat → Nat) → Nat → (Nat × Nat) ⊕ (Nat × (Nat → Nat) × Nat)
  | 0, _, j, W, s => .inr (j, W, s)
  | g + 1, x, j, W, s => if kdB (tcI T n j) = false then (if x ≠ 0 then .inr (j, W, s) else .inl (fkN T n j 2, frI T n j)) else if W (tcI T n j - 21) ≠ 0 then .inl (5, frI T n j) else if tcI T n (j + 1) = 2 ∧ 1 ≤ nuI T n (j + 1) ∧ nuI T n (j + 1) ≤ 16 then kN T n g (x + 1) (j + 2) (upN W (tcI T n j - 21) (nuI T n (j + 1))) (s + nuI T n (j + 1)) else .inl (fkN T n (j + 1) (if tcI T n (j + 1) = 2 then 4 else 2), frI T n (j + 1))
def KWa (W : Nat → Nat) (s : Nat) : Prop := (∀ k, W k ≤ 16) ∧ (∀ k, 4 ≤ k → W k = 0) ∧ s = W 0 + W 1 + W 2 + W 3
theorem kd_i {t : Nat} (h : kdB t = true) : 21 ≤ t ∧ t ≤ 24 := by
  unfold kdB at h
  rw [Bool.and_eq_true, decide_eq_true_eq, decide_eq_true_eq] at h
  exact h
theorem kw_up {W : Nat → Nat} {s q u : Nat} (kw : KWa W s) (hq : q < 4) (w0 : W q = 0) (u16 : u ≤ 16) : KWa (upN W q u) (s + u) := by
  obtain ⟨k1, k2, k3⟩ := kw
  refine ⟨fun k => ?_, fun k hk => ?_, ?_⟩
  · unfold upN
    split
    · exact u16
    · exact k1 k
  · rw [up_n (by omega)]
    exact k2 k hk
  · rcases lt4 hq with rfl | rfl | rfl | rfl <;> unfold upN <;> simp <;> omega
theorem kN_ok {T : Nat → Nat} {n m : Nat} (hm : m ≤ 900) (ht : ∀ i, i ≤ m → 2 ≤ tcI T n i → i < m) : ∀ (g x j : Nat) (W : Nat → Nat) (s : Nat), j ≤ m → m < j + g → KWa W s → ∀ j' W' s', kN T n g x j W s = .inr (j', W', s') → j ≤ j' ∧ j' ≤ m ∧ kdB (tcI T n j') = false ∧ KWa W' s'
  | 0, x, j, W, s, hj, hg, kw, j', W', s', e => absurd hg (by omega)
  | g + 1, x, j, W, s, hj, hg, kw, j', W', s', e => by
    unfold kN at e
    cases hk : kdB (tcI T n j) with
    | false =>
      rw [if_pos hk] at e
      by_cases hx : x ≠ 0
      · rw [if_pos hx] at e
        cases e
        exact ⟨Nat.le_refl _, hj, hk, kw⟩
      · rw [if_neg hx] at e; cases e
    | true =>
      rw [if_neg (by rw [hk]; decide)] at e
      obtain ⟨k1, k2⟩ := kd_i hk
      by_cases hw : W (tcI T n j - 21) ≠ 0
      · rw [if_pos hw] at e; cases e
      · rw [if_neg hw] at e
        by_cases hn : tcI T n (j + 1) = 2 ∧ 1 ≤ nuI T n (j + 1) ∧ nuI T n (j + 1) ≤ 16
        · rw [if_pos hn] at e
          have i1 := ht j hj (by omega)
          have i2 := ht (j + 1) (by omega) (by have := hn.1; omega)
          obtain ⟨y1, y2⟩ := kN_ok hm ht g (x + 1) (j + 2) _ _ (by omega) (by omega) (kw_up kw (by omega) (by omega) hn.2.2) j' W' s' e
          exact ⟨by omega, y2⟩
        · rw [if_neg hn] at e; cases e
/-- a witness more -/
def wA (A : Nat → Nat) (K : Nat) (W : Nat → Nat) (H : Nat) : Nat → Nat := fun y => if y = 4 then A 4 + 1 else if 76 + 6 * A 4 ≤ y ∧ y < 76 + 6 * A 4 + 4 then W (y - (76 + 6 * A 4)) else if y = 76 + 6 * A 4 + 4 then K else if y = 76 + 6 * A 4 + 5 then H else A y
def wV (T : Nat → Nat) (n i : Nat) (A : Nat → Nat) (V : Nat → List Nat) : Nat → List Nat := upV V (nbN 3 + cA A 3) (wdI T n i)
def W00 : Nat → Nat := fun _ => 0
/-- behind what a witness knows -/
def wO2 (T : Nat → Nat) (n j : Nat) (A : Nat → Nat) (V : Nat → List Nat) (Bv : Nat → Nat) (Q : Nat → Nat → Bool) (K : Nat) : OD :=
  if tcI T n j ≠ 16 then .inl (fkN T n j 2, frI T n j)
  else match kN T n 901 0 (j + 1) W00 0 with
    | .inl e => .inl e
    | .inr (j', W, s) => if tcI T n j' ≠ 17 ∧ tcI T n j' ≠ 3 then .inl (fkN T n j' 2, frI T n j') else if s ≠ 16 then .inl (8, frI T n j') else if tcI T n j' = 17 then (match tN T n (upC (cA A) 3) V 2 3 901 0 (j' + 1) 0 with
      | .inl e => .inl e
      | .inr (j2, H) => .inr (j2 + 1, wA A K W H, V, Bv, Q)) else .inr (j' + 1, wA A K W 0, V, Bv, Q)
def wO (T : Nat → Nat) (n i : Nat) (A : Nat → Nat) (V : Nat → List Nat) (Bv : Nat → Nat) (Q : Nat → Nat → Bool) : OD :=
  if A 4 = 4 then .inl (6, frI T n i)
  else if nwB T n (i + 1) (cA A) V = false then .inl (nmF T n (i + 1), frI T n (i + 1))
  else if tcI T n (i + 2) = 15 then (match tN T n (upC (cA A) 3) (wV T n (i + 1) A V) 0 16 901 0 (i + 3) 0 with
    | .inl e => .inl e
    | .inr (j, K) => wO2 T n j A (wV T n (i + 1) A V) Bv Q K)
  else wO2 T n (i + 2) A (wV T n (i + 1) A V) Bv Q 0
theorem wa_4 {A : Nat → Nat} {K : Nat} {W : Nat → Nat} {H : Nat} : wA A K W H 4 = A 4 + 1 := if_pos rfl
theorem wa_w {A : Nat → Nat} {K : Nat} {W : Nat → Nat} {H k : Nat} (hk : k < 4) : wA A K W H (76 + 6 * A 4 + k) = W k := by
  unfold wA
  rw [if_neg (by omega), if_pos (by omega), Nat.add_sub_cancel_left]
theorem wa_k {A : Nat → Nat} {K : Nat} {W : Nat → Nat} {H : Nat} : wA A K W H (76 + 6 * A 4 + 4) = K ∧ wA A K W H (76 + 6 * A 4 + 5) = H := by
  unfold wA
  constructor
  · rw [if_neg (by omega), if_neg (by omega), if_pos rfl]
  · rw [if_neg (by omega), if_neg (by omega), if_neg (by omega), if_pos rfl]
theorem wa_n {A : Nat → Nat} {K : Nat} {W : Nat → Nat} {H y : Nat} (h4 : y ≠ 4) (h7 : y < 76 + 6 * A 4 ∨ 76 + 6 * A 4 + 6 ≤ y) : wA A K W H y = A y := by
  unfold wA
  rw [if_neg h4, if_neg (by omega), if_neg (by omega), if_neg (by omega)]
theorem wa_ag {A : Nat → Nat} {K : Nat} {W : Nat → Nat} {H : Nat} : AGn A (wA A K W H) := fun x hx h3 => wa_n (by omega) (by omega)
theorem wa_cs {A : Nat → Nat} {K : Nat} {W : Nat → Nat} {H s : Nat} (hs : s < 4) : cA (wA A K W H) s = upC (cA A) 3 s := by
  rcases lt4 hs with rfl | rfl | rfl | rfl
  · exact wa_n (y := 0) (by decide) (by omega)
  · exact wa_n (y := 1) (by decide) (by omega)
  · exact wa_n (y := 3) (by decide) (by omega)
  · exact wa_4 (A := A) (K := K) (W := W) (H := H)
theorem nv_cs {C C' : Nat → Nat} {V : Nat → List Nat} (e : ∀ s, s < 4 → C' s = C s) (nv : NV C V) : NV C' V := by
  obtain ⟨n1, n2, n3⟩ := nv
  refine ⟨fun s hs => by rw [e s hs]; exact n1 s hs, fun s k hs hk => ?_, fun s k s' k' hs hs' hk hk' => ?_⟩
  · rw [e s hs] at hk
    exact n2 s k hs hk
  · rw [e s hs] at hk
    rw [e s' hs'] at hk'
    exact n3 s k s' k' hs hs' hk hk'
theorem ncl_cs {h : aH} {c : Nat} {C C' : Nat → Nat} {V : Nat → List Nat} (e : ∀ s, s < 4 → C' s = C s) (nc : NCl h c C V) : NCl h c C' V := by
  obtain ⟨m, es, en, h1, h2, h3, h4⟩ := nc
  refine ⟨m, es, en, by rw [e 0 (by decide), e 1 (by decide), e 2 (by decide), e 3 (by decide)]; exact h1, h2, fun x hx => ?_, fun s k hs hk => ?_⟩
  · obtain ⟨y1, y2, y3⟩ := h3 x hx
    exact ⟨y1, by rw [e _ y1]; exact y2, y3⟩
  · rw [e s hs] at hk
    exact h4 s k hs hk
theorem nre_cs {k : aH} {o : Nat} {C C' : Nat → Nat} {V : Nat → List Nat} (e : ∀ s, s < 4 → C' s = C s) (nr : NRe k o C V) : NRe k o C' V := fun s j hs hj => by
  rw [e s hs] at hj
  exact nr s j hs hj
theorem dv_w {A : Nat → Nat} {V V' : Nat → List Nat} {Bv : Nat → Nat} {Q : Nat → Nat → Bool} (dv : DV A V Bv Q) (h4 : A 4 < 4) {K : Nat} {W : Nat → Nat} {H : Nat} (k16 : K < 16) (kw : KWa W 16) (hH : H < 4096) (nv : NV (upC (cA A) 3) V') : DV (wA A K W H) V' Bv Q := by
  obtain ⟨z1, z2, z3, z4, z5, z6, z7, z8, z9⟩ := dv
  have ag := wa_ag (A := A) (K := K) (W := W) (H := H)
  obtain ⟨w1, w2, w3⟩ := ag_wff ag z1
  have c3 : wA A K W H 3 = A 3 := wa_n (by decide) (by omega)
  have b3 := z1.2.1
  refine ⟨⟨w1, by rw [c3]; exact b3, by rw [wa_4]; omega, w3, fun q hq => ?_, fun v hv => ?_⟩, nv_cs (fun s hs => wa_cs hs) nv, ag_2 ag z1.1.1 z3, z4, fun v k hv hv4 hk => ?_, fun q w hq => ?_, ?_, ag_vf ag z1 z8, ag_sq ag z1 z9⟩
  · rw [c3] at hq
    rw [wa_n (by omega) (by omega)]
    exact z1.2.2.2.2.1 q hq
  · rw [wa_4] at hv
    by_cases e : v = A 4
    · subst e
      obtain ⟨k1, k2, k3⟩ := kw
      refine ⟨fun k hk => by rw [wa_w hk]; exact k1 k, ?_, by rw [wa_k.1]; exact k16, by rw [wa_k.2]; exact hH⟩
      show 0 + wA A K W H (76 + 6 * A 4 + 0) + wA A K W H (76 + 6 * A 4 + 1) + wA A K W H (76 + 6 * A 4 + 2) + wA A K W H (76 + 6 * A 4 + 3) = 16
      rw [wa_w (by decide), wa_w (by decide), wa_w (by decide), wa_w (by decide)]
      omega
    · have q := z1.2.2.2.2.2 v (by omega)
      have e' : ∀ k, k < 6 → wA A K W H (76 + 6 * v + k) = A (76 + 6 * v + k) := fun k hk => wa_n (by omega) (by omega)
      refine ⟨fun k hk => by rw [e' k (by omega)]; exact q.1 k hk, ?_, by rw [e' 4 (by decide)]; exact q.2.2.1, by rw [e' 5 (by decide)]; exact q.2.2.2⟩
      show 0 + wA A K W H (76 + 6 * v + 0) + wA A K W H (76 + 6 * v + 1) + wA A K W H (76 + 6 * v + 2) + wA A K W H (76 + 6 * v + 3) = 16
      rw [e' 0 (by decide), e' 1 (by decide), e' 2 (by decide), e' 3 (by decide)]
      exact q.2.1
  · rw [wa_4] at hv
    rw [wa_n (by omega) (by omega)]
    exact z5 v k (by omega) hv4 hk
  · rw [ag_cn ag z1.1.1, c3]
    exact z6 q w hq
  · rw [wa_n (by decide) (by omega), wa_n (by decide) (by omega)]
    exact z7
theorem wO2_lt {T : Nat → Nat} {n m j : Nat} {A : Nat → Nat} {V : Nat → List Nat} {Bv : Nat → Nat} {Q : Nat → Nat → Bool} {K : Nat} (hm : m ≤ 900) (ht : ∀ i, i ≤ m → 2 ≤ tcI T n i → i < m) (hj : j ≤ m) (b3 : A 3 ≤ 12) {i' : Nat} {r : (Nat → Nat) × (Nat → List Nat) × (Nat → Nat) × (Nat → Nat → Bool)} (e : wO2 T n j A V Bv Q K = .inr (i', r)) : j < i' := by
  unfold wO2 at e
  by_cases t : tcI T n j = 16
  · rw [if_neg (fun z => z t)] at e
    have i1 := ht j hj (by omega)
    cases hk : kN T n 901 0 (j + 1) W00 0 with
    | inl q => rw [hk] at e; cases e
    | inr q =>
      obtain ⟨j', W, s⟩ := q
      rw [hk] at e
      obtain ⟨o1, o2, -⟩ := kN_ok hm ht 901 0 (j + 1) W00 0 (by omega) (by omega) ⟨fun _ => Nat.zero_le _, fun _ _ => rfl, rfl⟩ j' W s hk
      have e1 : (if tcI T n j' ≠ 17 ∧ tcI T n j' ≠ 3 then (Sum.inl (fkN T n j' 2, frI T n j') : OD) else if s ≠ 16 then .inl (8, frI T n j') else if tcI T n j' = 17 then (match tN T n (upC (cA A) 3) V 2 3 901 0 (j' + 1) 0 with
        | .inl e => .inl e
        | .inr (j2, H) => .inr (j2 + 1, wA A K W H, V, Bv, Q)) else .inr (j' + 1, wA A K W 0, V, Bv, Q)) = .inr (i', r) := e
      by_cases h1 : tcI T n j' ≠ 17 ∧ tcI T n j' ≠ 3
      · rw [if_pos h1] at e1; cases e1
      · rw [if_neg h1] at e1
        by_cases h2 : s ≠ 16
        · rw [if_pos h2] at e1; cases e1
        · rw [if_neg h2] at e1
          by_cases h3 : tcI T n j' = 17
          · rw [if_pos h3] at e1
            have i2 := ht j' o2 (by omega)
            cases hn : tN T n (upC (cA A) 3) V 2 3 901 0 (j' + 1) 0 with
            | inl q => rw [hn] at e1; cases e1
            | inr q =>
              obtain ⟨j2, H⟩ := q
              rw [hn] at e1
              obtain ⟨p1, -⟩ := tN_ok (b := 12) hm ht (show upC (cA A) 3 2 ≤ 12 from b3) 901 0 (j' + 1) 0 (by omega) (by omega) (by decide) j2 H hn
              cases e1
              omega
          · rw [if_neg h3] at e1
            cases e1
            omega
  · rw [if_pos t] at e; cases e
theorem wO_lt {T : Nat → Nat} {n m i : Nat} {A : Nat → Nat} {V : Nat → List Nat} {Bv : Nat → Nat} {Q : Nat → Nat → Bool} (hm : m ≤ 900) (ht : ∀ i, i ≤ m → 2 ≤ tcI T n i → i < m) (hi : i ≤ m) (t : tcI T n i = 14) (b0 : A 0 ≤ 4) (b3 : A 3 ≤ 12) {i' : Nat} {r : (Nat → Nat) × (Nat → List Nat) × (Nat → Nat) × (Nat → Nat → Bool)} (e : wO T n i A V Bv Q = .inr (i', r)) : i < i' := by
  unfold wO at e
  by_cases h4 : A 4 = 4
  · rw [if_pos h4] at e; cases e
  rw [if_neg h4] at e
  cases hb : nwB T n (i + 1) (cA A) V with
  | false => rw [if_pos hb] at e; cases e
  | true =>
    rw [if_neg (by rw [hb]; decide)] at e
    have t1 := (nw_6 hb).1
    have i1 := ht i hi (by omega)
    have i2 := ht (i + 1) (by omega) (by omega)
    by_cases h15 : tcI T n (i + 2) = 15
    · rw [if_pos h15] at e
      have i3 := ht (i + 2) (by omega) (by omega)
      cases hn : tN T n (upC (cA A) 3) (wV T n (i + 1) A V) 0 16 901 0 (i + 3) 0 with
      | inl q => rw [hn] at e; cases e
      | inr q =>
        obtain ⟨j, K⟩ := q
        rw [hn] at e
        obtain ⟨p1, p2, -⟩ := tN_ok (b := 4) hm ht (show upC (cA A) 3 0 ≤ 4 from b0) 901 0 (i + 3) 0 (by omega) (by omega) (by decide) j K hn
        have := wO2_lt hm ht p2 b3 e
        omega
    · rw [if_neg h15] at e
      have := wO2_lt hm ht (by omega) b3 e
      omega
