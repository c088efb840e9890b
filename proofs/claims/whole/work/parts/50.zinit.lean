/-! ===== the heap behind both constructors, by evaluation ===== -/
def hA : aH := (f_X11_init (hN h00 11 20) 0).getD h00
def hB : aH := (f_X12_init (hN hA 12 48) 113).getD h00
theorem hA_ok : (f_X11_init (hN h00 11 20) 0).isSome = true := by decide +kernel
theorem hA_sh : hA.1 = SH0.take 113 := by decide +kernel
theorem hB_ok : (f_X12_init (hN hA 12 48) 113).isSome = true := by decide +kernel
theorem hB_sh : hB.1 = SH0 := by decide +kernel
theorem hB_rf : ∀ q ∈ RT0, hB.2.2.2 q.1 q.2.1 = some q.2.2 := by decide +kernel
/-- where a function would differ from 0, if it did: so one look is enough, and a look that never asks which place it is goes through by evaluation -/
theorem eps_all {f : Nat → Int32} (h : f (Classical.epsilon fun j => f j ≠ 0) = 0) (j : Nat) : f j = 0 := by
  rcases Classical.em (f j = 0) with e | e
  · exact e
  · exact absurd h (Classical.epsilon_spec (p := fun j => f j ≠ 0) ⟨j, e⟩)
theorem hB_5e : hB.2.1 5 (Classical.epsilon fun j => hB.2.1 5 j ≠ 0) = 0 := by decide +kernel
theorem hB_120e : hB.2.1 120 (Classical.epsilon fun j => hB.2.1 120 j ≠ 0) = 0 := by decide +kernel
theorem hB_r : hB.2.2.2 0 11 = some 26 ∧ hB.2.2.2 52 4 = some 26 ∧ hB.2.2.2 0 12 = some 14 ∧ hB.2.2.2 0 13 = some 20 := by decide +kernel
theorem hB_11 : ∀ i, i < 5 → hB.2.2.2 11 i = if i = 0 then some 26 else none := by decide +kernel
theorem hB_c1 : (hB.2.1 26 12 = 0 ∧ hB.2.1 26 13 = 0 ∧ hB.2.1 26 14 = 1 ∧ hB.2.1 26 15 = 1 ∧ hB.2.1 26 16 = 0 ∧ hB.2.1 26 17 = 0 ∧ hB.2.1 26 18 = 65535) ∧ hB.2.1 35 0 = 1 ∧ hB.2.1 36 0 = 0 ∧ hB.2.1 27 3 = 0 := by decide +kernel
theorem hB_h1 : (hB.2.1 53 4 = 0 ∧ hB.2.1 53 5 = 0) ∧ (hB.2.1 52 5 = 1 ∧ hB.2.1 52 6 = 0 ∧ hB.2.1 58 0 = 65535 ∧ hB.2.1 59 0 = 0) ∧ hB.2.1 14 7 = 0 := by decide +kernel
theorem hB_114 : ∀ k, k < 100 → hB.2.1 114 k = if k = 2 then 1 else if k = 7 then -1 else 0 := by decide +kernel
theorem hB_115 : ∀ k, k < 52 → hB.2.2.1 115 k = if k = 0 then 1 else 0 := by decide +kernel
theorem hB_t : ∀ t, t < 4 → hB.2.1 1 t = -1 ∧ hB.2.1 118 t = -1 := by decide +kernel
theorem hB_s1 : hB.2.1 0 17 = 0 ∧ hB.2.1 113 3 = 0 ∧ hB.2.1 0 15 = -1 ∧ hB.2.1 113 37 = -1 ∧ hB.2.1 0 16 = 0 ∧ hB.2.1 113 45 = 0 ∧ hB.2.1 0 14 = 0 ∧ hB.2.1 113 47 = 0 ∧ hB.2.1 4 6 = 0 ∧ hB.2.1 113 11 = 0 := by decide +kernel
theorem hB_s2 : hB.2.2.1 0 18 = hB.2.2.1 113 4 ∧ hB.2.2.1 0 19 = hB.2.2.1 113 5 ∧ hB.2.1 4 12 = hB.2.1 113 17 ∧ hB.2.1 4 13 = hB.2.1 113 18 := by decide +kernel
