/-! ===== contents set as wholes; small facts ===== -/
def wI (h : aH) (a : Nat) (g : Nat → Int32) : aH := (h.1, fun i => if i = a then g else h.2.1 i, h.2.2.1, h.2.2.2)
def wJ (h : aH) (a : Nat) (g : Nat → Int64) : aH := (h.1, h.2.1, fun i => if i = a then g else h.2.2.1 i, h.2.2.2)
theorem hI_w {h : aH} {a k : Nat} {x : Int32} : hI h a k x = wI h a (va_up (h.2.1 a) k x) := rfl
theorem hJ_w {h : aH} {a k : Nat} {x : Int64} : hJ h a k x = wJ h a (va_up (h.2.2.1 a) k x) := rfl
theorem wI_I {h : aH} {a i : Nat} {g : Nat → Int32} : (wI h a g).2.1 i = if i = a then g else h.2.1 i := rfl
theorem wI_J {h : aH} {a : Nat} {g : Nat → Int32} : (wI h a g).2.2.1 = h.2.2.1 := rfl
theorem wI_R {h : aH} {a : Nat} {g : Nat → Int32} : (wI h a g).2.2.2 = h.2.2.2 := rfl
theorem wI_1 {h : aH} {a : Nat} {g : Nat → Int32} : (wI h a g).1 = h.1 := rfl
theorem wJ_I {h : aH} {a : Nat} {g : Nat → Int64} : (wJ h a g).2.1 = h.2.1 := rfl
theorem wJ_J {h : aH} {a i : Nat} {g : Nat → Int64} : (wJ h a g).2.2.1 i = if i = a then g else h.2.2.1 i := rfl
theorem wJ_R {h : aH} {a : Nat} {g : Nat → Int64} : (wJ h a g).2.2.2 = h.2.2.2 := rfl
theorem wJ_1 {h : aH} {a : Nat} {g : Nat → Int64} : (wJ h a g).1 = h.1 := rfl
theorem wI_wI {h : aH} {a : Nat} {f g : Nat → Int32} : wI (wI h a f) a g = wI h a g := by
  unfold wI
  refine congrArg (fun q => (h.1, q, h.2.2.1, h.2.2.2)) ?_
  funext i
  by_cases hi : i = a <;> simp [hi]
theorem wJ_wJ {h : aH} {a : Nat} {f g : Nat → Int64} : wJ (wJ h a f) a g = wJ h a g := by
  unfold wJ
  refine congrArg (fun q => (h.1, h.2.1, q, h.2.2.2)) ?_
  funext i
  by_cases hi : i = a <;> simp [hi]
theorem wI_self {h : aH} {a : Nat} : wI h a (h.2.1 a) = h := by
  have : (fun i => if i = a then h.2.1 a else h.2.1 i) = h.2.1 := by
    funext i
    by_cases hi : i = a
    · rw [if_pos hi, hi]
    · rw [if_neg hi]
  unfold wI
  rw [this]
theorem wJ_self {h : aH} {a : Nat} : wJ h a (h.2.2.1 a) = h := by
  have : (fun i => if i = a then h.2.2.1 a else h.2.2.1 i) = h.2.2.1 := by
    funext i
    by_cases hi : i = a
    · rw [if_pos hi, hi]
    · rw [if_neg hi]
  unfold wJ
  rw [this]
theorem lay_wI {h : aH} {a : Nat} {g : Nat → Int32} (hl : LAY h) : LAY (wI h a g) := hl
theorem lay_wJ {h : aH} {a : Nat} {g : Nat → Int64} (hl : LAY h) : LAY (wJ h a g) := hl
theorem aN_L {h : aH} (hl : LAY h) {a : Nat} (hk : 20 ≤ kT a ∧ kT a < 26) : aN h a = some (nI (lT a)) := by
  have h9 : kT a ≠ 99 := by omega
  unfold aN
  rw [lay_kd hl a h9, if_pos hk, lay_ln hl a h9]
  rfl
/-- the places from lo on, up to hi, hold x -/
def fillF {α : Type} (f : Nat → α) (lo hi : Nat) (x : α) : Nat → α := fun j => if lo ≤ j ∧ j < hi then x else f j
theorem fillF_0 {α : Type} {f : Nat → α} {lo : Nat} {x : α} : fillF f lo lo x = f := by
  funext j
  unfold fillF
  rw [if_neg (by omega)]
theorem fillF_s {α : Type} {f : Nat → α} {lo i : Nat} {x : α} (h : lo ≤ i) : va_up (fillF f lo i x) i x = fillF f lo (i + 1) x := by
  funext j
  unfold va_up fillF
  by_cases h1 : j = i
  · rw [if_pos h1, if_pos (by omega)]
  · rw [if_neg h1]
    by_cases h2 : lo ≤ j ∧ j < i
    · rw [if_pos h2, if_pos (by omega)]
    · rw [if_neg h2, if_neg (by omega)]
theorem fill_J {h : aH} (hl : LAY h) {a lo hi : Nat} {x : Int64} (hk : kT a = 21) (h1 : lo ≤ hi) (h2 : hi ≤ lT a) (h3 : lT a < 100000) : f_J7_fill_bad5a h a (nI lo) (nI hi) x = some (wJ h a (fillF (h.2.2.1 a) lo hi x)) := by
  have e1 : f_J7_rangeCheck_23922 h (nI (lT a)) (nI lo) (nI hi) = some () := by
    unfold f_J7_rangeCheck_23922
    rw [if_pos (nI_le h1 (by omega)), if_pos (nI_pos' (by omega)), if_pos (nI_le h2 (by omega))]
  have e2 : f_J7_fill_bad5a_l10 a (nI hi) x (nI lo) h = some (wJ h a (fillF (h.2.2.1 a) lo hi x)) := by
    unfold f_J7_fill_bad5a_l10
    have := forL (body := fun q : Int32 × aH => f_J7_fill_bad5a_b10 a (nI hi) x q.1 q.2) (fun i => (nI i, wJ h a (fillF (h.2.2.1 a) lo i x))) (e := wJ h a (fillF (h.2.2.1 a) lo hi x)) (hi - lo) wN lo (by rw [wN_e]; omega) (fun j j1 j2 => ?_) ?_
    · rw [show wJ h a (fillF (h.2.2.1 a) lo lo x) = h by rw [fillF_0, wJ_self]] at this
      exact this
    · show f_J7_fill_bad5a_b10 a (nI hi) x (nI j) _ = _
      unfold f_J7_fill_bad5a_b10
      rw [if_neg (nI_ge (by omega) (by omega)), sJ_L (lay_wJ hl) x hk (by omega), Option.bind_some, Option.bind_some, hJ_w, wJ_wJ, wJ_J, if_pos rfl, fillF_s j1]
      rw [show nI j + (1 : Int32) = nI (j + 1) from nI_1 j]
    · show f_J7_fill_bad5a_b10 a (nI hi) x (nI (lo + (hi - lo))) _ = _
      unfold f_J7_fill_bad5a_b10
      rw [show lo + (hi - lo) = hi by omega, if_pos (nI_le (Nat.le_refl hi) (by omega))]
  unfold f_J7_fill_bad5a
  rw [aN_L hl (by omega), Option.bind_some, e1, Option.bind_some, e2, Option.bind_some]
theorem bel_lt {h : aH} {x M : Int32} (hx : x < 0) : f_X11_below h x M = some 0 := by
  unfold f_X11_below
  rw [if_pos hx]
theorem bel_ge {h : aH} {x M : Int32} (hx : M ≤ x) : f_X11_below h x M = some 0 := by
  unfold f_X11_below
  by_cases h0 : x < 0
  · rw [if_pos h0]
  · rw [if_neg h0, if_pos hx]
theorem bel_in {h : aH} {j n : Nat} (hj : j < n) (hn : n < 2 ^ 31) : f_X11_below h (nI j) (nI n) = some 1 := by
  unfold f_X11_below
  rw [if_neg (nI_pos (by omega)), if_neg (nI_ge hj hn)]
theorem rZ_0 : rZ 0 = some 0 := rfl
theorem rZ_1 : rZ 1 = some 1 := rfl
theorem bd2_some {α β γ : Type} {a : α} {b : β} {k : α → β → Option γ} : bd2 (some (a, b)) k = k a b := rfl
theorem deny_L {h : aH} (hl : LAY h) {w : Int32} : f_X11_deny h 0 w = some (0, hI h 0 17 w) := by
  simp (decide := true) only [f_X11_deny, pI_L hl, Option.bind_some]
theorem grant_L {h : aH} (hl : LAY h) : f_X11_grant h 0 = some (1, hI h 0 17 0) := by
  simp (decide := true) only [f_X11_grant, pI_L hl, Option.bind_some]
theorem refuse_L {h : aH} (hl : LAY h) {w : Int32} : f_X11_refuse h 0 w = some (-1, hI h 0 17 w) := by
  simp (decide := true) only [f_X11_refuse, pI_L hl, Option.bind_some]
theorem is_L0 {h : aH} (hl : LAY h) : f_X12_is h 113 0 = some (1, hI h 113 3 0) := by
  simp (decide := true) only [f_X12_is, pI_L hl, Option.bind_some, if_true]
theorem is_L {h : aH} (hl : LAY h) {w : Int32} (hw : ¬ w = 0) : f_X12_is h 113 w = some (0, hI h 113 3 w) := by
  simp (decide := true) only [f_X12_is, pI_L hl, Option.bind_some, if_neg hw]
