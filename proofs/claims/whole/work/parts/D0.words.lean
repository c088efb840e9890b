/-! ===== words and tokens of a text, without a machine ===== -/
def chL (c : Nat) : Bool := decide (97 ≤ c) && decide (c ≤ 122)
def chD (c : Nat) : Bool := decide (48 ≤ c) && decide (c ≤ 57)
def chB (c : Nat) : Bool := decide (c = 10) || decide (c = 32)
/-- the end of a run of such bytes from e on -/
def rnE (p : Nat → Bool) (T : Nat → Nat) (n e : Nat) : Nat := match firstB (fun j => !p (T (e + j))) (n - e) with
  | some j => e + j
  | none => n
theorem rn_in {p : Nat → Bool} {T : Nat → Nat} {n e : Nat} (he : e ≤ n) : e ≤ rnE p T n e ∧ rnE p T n e ≤ n ∧ (∀ j, e ≤ j → j < rnE p T n e → p (T j) = true) ∧ (rnE p T n e < n → p (T (rnE p T n e)) = false) := by
  unfold rnE
  cases hf : firstB (fun j => !p (T (e + j))) (n - e) with
  | some j =>
    obtain ⟨h1, h2, h3⟩ := firstB_s.mp hf
    refine ⟨by show e ≤ e + j; omega, by show e + j ≤ n; omega, fun i hi hj => ?_, fun _ => ?_⟩
    · have := h3 (i - e) (by have : i < e + j := hj; omega)
      rw [show e + (i - e) = i by omega] at this
      simpa using this
    · show p (T (e + j)) = false
      simpa using h2
  | none =>
    have h := firstB_n.mp hf
    refine ⟨he, Nat.le_refl n, fun i hi hj => ?_, fun hh => absurd hh (Nat.lt_irrefl n)⟩
    have := h (i - e) (by have : i < n := hj; omega)
    rw [show e + (i - e) = i by omega] at this
    simpa using this
/-- one more byte of the run -/
theorem rn_s {p : Nat → Bool} {T : Nat → Nat} {n e : Nat} (he : e < n) (h : p (T e) = true) : rnE p T n e = rnE p T n (e + 1) := by
  obtain ⟨a1, a2, a3, a4⟩ := rn_in (p := p) (T := T) (n := n) (e := e) (by omega)
  obtain ⟨b1, b2, b3, b4⟩ := rn_in (p := p) (T := T) (n := n) (e := e + 1) (by omega)
  rcases Nat.lt_trichotomy (rnE p T n e) (rnE p T n (e + 1)) with q | q | q
  · have x := a4 (by omega)
    rcases Nat.lt_or_ge e (rnE p T n e) with u | u
    · have := b3 (rnE p T n e) (by omega) q
      rw [this] at x
      cases x
    · have e1 : rnE p T n e = e := by omega
      rw [e1, h] at x
      cases x
  · exact q
  · have x := b4 (by omega)
    have := a3 (rnE p T n (e + 1)) (by omega) q
    rw [this] at x
    cases x
theorem rn_0 {p : Nat → Bool} {T : Nat → Nat} {n e : Nat} (he : e < n) (h : p (T e) = false) : rnE p T n e = e := by
  obtain ⟨a1, a2, a3, a4⟩ := rn_in (p := p) (T := T) (n := n) (e := e) (by omega)
  rcases Nat.lt_or_ge e (rnE p T n e) with u | u
  · have := a3 e (by omega) u
    rw [this] at h
    cases h
  · omega
theorem rn_n {p : Nat → Bool} {T : Nat → Nat} {n : Nat} : rnE p T n n = n := by
  obtain ⟨a1, a2, -⟩ := rn_in (p := p) (T := T) (n := n) (e := n) (by omega)
  omega
/-- a token that begins at f, ends at .. -/
def tkX (T : Nat → Nat) (n f : Nat) : Nat := if n ≤ f then n else if chL (T f) = true then rnE chL T n f else if chD (T f) = true then rnE chD T n f else f + 1
def tpo (T : Nat → Nat) (n : Nat) : Nat → Nat
  | 0 => 0
  | i + 1 => tkX T n (rnE chB T n (tpo T n i))
/-- where the i-th token begins -/
def frI (T : Nat → Nat) (n i : Nat) : Nat := rnE chB T n (tpo T n i)
theorem tpo_s {T : Nat → Nat} {n i : Nat} : tpo T n (i + 1) = tkX T n (frI T n i) := rfl
def wdL (T : Nat → Nat) (f l : Nat) : List Nat := (List.range l).map (fun j => T (f + j))
theorem wd_s {T : Nat → Nat} {f l : Nat} : wdL T f (l + 1) = wdL T f l ++ [T (f + l)] := by
  unfold wdL
  rw [List.range_succ, List.map_append]
  rfl
theorem wd_len {T : Nat → Nat} {f l : Nat} : (wdL T f l).length = l := by
  unfold wdL
  rw [List.length_map, List.length_range]
/-- the words that are no names, in the class's order -/
def KW : List (List Nat) := [[102, 97, 99, 116], [104, 97, 115], [110, 101, 118, 101, 114], [113, 117, 101, 115, 116, 105, 111, 110], [102, 101, 101], [97, 115, 107, 115], [119, 105, 116, 110, 101, 115, 115], [107, 110, 111, 119, 115], [109, 97, 121], [104, 105, 100, 101, 115], [111, 114], [97, 110, 100], [110, 111, 116], [104, 111, 110, 101, 115, 116], [116, 117, 114, 110, 115], [111, 116, 104, 101, 114], [115, 105, 108, 101, 110, 116], [97, 115, 107], [98, 101, 115, 116], [110, 101, 120, 116], [114, 117, 108, 101], [119, 104, 101, 110], [115, 117, 114, 101], [121, 101, 115], [110, 111], [108, 101, 102, 116], [101, 110, 100]]
def kwL (k : Nat) : List Nat := KW.getD k []
def kwI (w : List Nat) : Option Nat := firstB (fun k => kwL k == w) 27
def tcF (T : Nat → Nat) (n f : Nat) : Nat := if n ≤ f then 0 else if chL (T f) = true then (if 8 < rnE chL T n f - f then 7 else match kwI (wdL T f (rnE chL T n f - f)) with | some k => 8 + k | none => 6) else if chD (T f) = true then (if 4 < rnE chD T n f - f then 1 else 2) else if T f = 40 then 4 else if T f = 41 then 5 else if T f = 59 then 3 else 1
/-- what the i-th token is -/
def tcI (T : Nat → Nat) (n i : Nat) : Nat := tcF T n (frI T n i)
def nuL (w : List Nat) : Nat := w.foldl (fun v b => v * 10 + (b - 48)) 0
def c5 (w : List Nat) : Nat := w.foldl (fun v b => v * 32 + (b - 96)) 0
def c8 (w : List Nat) : Nat := w.foldl (fun v b => v * 256 + b) 0
/-- its word, its number -/
def wdI (T : Nat → Nat) (n i : Nat) : List Nat := wdL T (frI T n i) (rnE chL T n (frI T n i) - frI T n i)
def nuI (T : Nat → Nat) (n i : Nat) : Nat := nuL (wdL T (frI T n i) (rnE chD T n (frI T n i) - frI T n i))
theorem c5_s {w : List Nat} {b : Nat} : c5 (w ++ [b]) = c5 w * 32 + (b - 96) := by
  unfold c5
  rw [List.foldl_append]
  rfl
theorem c8_s {w : List Nat} {b : Nat} : c8 (w ++ [b]) = c8 w * 256 + b := by
  unfold c8
  rw [List.foldl_append]
  rfl
theorem nu_s {w : List Nat} {b : Nat} : nuL (w ++ [b]) = nuL w * 10 + (b - 48) := by
  unfold nuL
  rw [List.foldl_append]
  rfl
def smW (w : List Nat) : Prop := ∀ b ∈ w, 97 ≤ b ∧ b ≤ 122
theorem sm_s {w : List Nat} {b : Nat} : smW (w ++ [b]) ↔ smW w ∧ 97 ≤ b ∧ b ≤ 122 := by
  unfold smW
  simp only [List.mem_append, List.mem_singleton]
  constructor
  · intro h
    exact ⟨fun x hx => h x (Or.inl hx), h b (Or.inr rfl)⟩
  · rintro ⟨h1, h2⟩ x (hx | rfl)
    · exact h1 x hx
    · exact h2
theorem c5_inj : ∀ (n : Nat) (w u : List Nat), w.length = n → smW w → smW u → c5 w = c5 u → w = u
  | 0, w, u, hn, hw, hu, he => by
    obtain rfl : w = [] := List.eq_nil_of_length_eq_zero hn
    rcases List.eq_nil_or_concat u with rfl | ⟨u', b, rfl⟩
    · rfl
    · rw [List.concat_eq_append] at *
      rw [c5_s] at he
      have := (sm_s.mp hu).2
      have h0 : c5 [] = 0 := rfl
      omega
  | n + 1, w, u, hn, hw, hu, he => by
    rcases List.eq_nil_or_concat w with rfl | ⟨w', a, rfl⟩
    · simp at hn
    · rw [List.concat_eq_append] at *
      have ha := (sm_s.mp hw).2
      rcases List.eq_nil_or_concat u with rfl | ⟨u', b, rfl⟩
      · rw [c5_s] at he
        have h0 : c5 [] = 0 := rfl
        omega
      · rw [List.concat_eq_append] at *
        have hb := (sm_s.mp hu).2
        rw [c5_s, c5_s] at he
        have e1 : c5 w' = c5 u' := by omega
        have e2 : a = b := by omega
        rw [c5_inj n w' u' (by simpa using hn) (sm_s.mp hw).1 (sm_s.mp hu).1 e1, e2]
theorem c8_inj : ∀ (n : Nat) (w u : List Nat), w.length = n → smW w → smW u → c8 w = c8 u → w = u
  | 0, w, u, hn, hw, hu, he => by
    obtain rfl : w = [] := List.eq_nil_of_length_eq_zero hn
    rcases List.eq_nil_or_concat u with rfl | ⟨u', b, rfl⟩
    · rfl
    · rw [List.concat_eq_append] at *
      rw [c8_s] at he
      have := (sm_s.mp hu).2
      have h0 : c8 [] = 0 := rfl
      omega
  | n + 1, w, u, hn, hw, hu, he => by
    rcases List.eq_nil_or_concat w with rfl | ⟨w', a, rfl⟩
    · simp at hn
    · rw [List.concat_eq_append] at *
      have ha := (sm_s.mp hw).2
      rcases List.eq_nil_or_concat u with rfl | ⟨u', b, rfl⟩
      · rw [c8_s] at he
        have h0 : c8 [] = 0 := rfl
        omega
      · rw [List.concat_eq_append] at *
        have hb := (sm_s.mp hu).2
        rw [c8_s, c8_s] at he
        have e1 : c8 w' = c8 u' := by omega
        have e2 : a = b := by omega
        rw [c8_inj n w' u' (by simpa using hn) (sm_s.mp hw).1 (sm_s.mp hu).1 e1, e2]
theorem c5_lt : ∀ (n : Nat) (w : List Nat), w.length = n → smW w → c5 w < 32 ^ n
  | 0, w, hn, hw => by
    obtain rfl : w = [] := List.eq_nil_of_length_eq_zero hn
    decide
  | n + 1, w, hn, hw => by
    rcases List.eq_nil_or_concat w with rfl | ⟨w', a, rfl⟩
    · simp at hn
    · rw [List.concat_eq_append] at *
      have ha := (sm_s.mp hw).2
      have ih := c5_lt n w' (by simpa using hn) (sm_s.mp hw).1
      rw [c5_s, Nat.pow_succ]
      omega
theorem c8_lt : ∀ (n : Nat) (w : List Nat), w.length = n + 1 → smW w → c8 w < 123 * 256 ^ n
  | 0, w, hn, hw => by
    rcases List.eq_nil_or_concat w with rfl | ⟨w', a, rfl⟩
    · simp at hn
    · rw [List.concat_eq_append] at *
      have ha := (sm_s.mp hw).2
      obtain rfl : w' = [] := List.eq_nil_of_length_eq_zero (by simpa using hn)
      rw [c8_s]
      show 0 * 256 + a < 123 * 1
      omega
  | n + 1, w, hn, hw => by
    rcases List.eq_nil_or_concat w with rfl | ⟨w', a, rfl⟩
    · simp at hn
    · rw [List.concat_eq_append] at *
      have ha := (sm_s.mp hw).2
      have ih := c8_lt n w' (by simpa using hn) (sm_s.mp hw).1
      rw [c8_s, Nat.pow_succ]
      omega
/-- words of at most eight letters fit into a long, both ways -/
theorem c5_b {w : List Nat} (h8 : w.length ≤ 8) (hw : smW w) : c5 w < 2 ^ 40 := by
  refine Nat.lt_of_lt_of_le (c5_lt w.length w rfl hw) ?_
  rw [show (2 : Nat) ^ 40 = 32 ^ 8 from by decide]
  exact Nat.pow_le_pow_right (by decide) h8
theorem c8_b {w : List Nat} (h8 : w.length ≤ 8) (hw : smW w) : c8 w < 2 ^ 63 := by
  cases hl : w.length with
  | zero =>
    obtain rfl : w = [] := List.eq_nil_of_length_eq_zero hl
    decide
  | succ n =>
    refine Nat.lt_of_lt_of_le (c8_lt n w hl hw) ?_
    have : 256 ^ n ≤ 256 ^ 7 := Nat.pow_le_pow_right (by decide) (by omega)
    have h2 : 123 * 256 ^ 7 ≤ 2 ^ 63 := by decide
    omega
theorem kw_ok : ∀ k, k < 27 → (kwL k).length ≤ 8 ∧ 0 < (kwL k).length ∧ (kwL k).all (fun b => decide (97 ≤ b) && decide (b ≤ 122)) = true := by decide +kernel
theorem kw_sm {k : Nat} (hk : k < 27) : smW (kwL k) := fun b hb => by
  have := (kw_ok k hk).2.2
  rw [List.all_eq_true] at this
  have := this b hb
  simpa using this
theorem kw_inj : ∀ j, j < 27 → ∀ k, k < 27 → kwL j = kwL k → j = k := by decide +kernel
theorem wd_sm {T : Nat → Nat} {f l : Nat} (h : ∀ j, j < l → chL (T (f + j)) = true) : smW (wdL T f l) := fun b hb => by
  unfold wdL at hb
  obtain ⟨j, h1, rfl⟩ := List.mem_map.mp hb
  have := h j (List.mem_range.mp h1)
  unfold chL at this
  simpa using this
theorem wd_get {T : Nat → Nat} {f l j : Nat} (h : j < l) : (wdL T f l).getD j 0 = T (f + j) := by
  unfold wdL
  rw [List.getD_eq_getElem?_getD, List.getElem?_map, List.getElem?_range h]
  rfl
