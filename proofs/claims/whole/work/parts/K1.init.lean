/-! ===== the constructors, by evaluation ===== -/
def hA : aH := (f_X11_init (hN h00 11 20) 0).getD h00
def hB : aH := (f_X12_init (hN hA 12 48) 113).getD h00
theorem hA_ok : (f_X11_init (hN h00 11 20) 0).isSome = true := by decide +kernel
theorem hA_sh : hA.1 = SH0.take 113 := by decide +kernel
theorem hB_ok : (f_X12_init (hN hA 12 48) 113).isSome = true := by decide +kernel
theorem hB_sh : hB.1 = SH0 := by decide +kernel
theorem hB_rf : ∀ q ∈ RT0, hB.2.2.2 q.1 q.2.1 = some q.2.2 := by decide +kernel
theorem hB_lay : LAY hB := ⟨⟨[], by rw [hB_sh, List.append_nil]⟩, hB_rf⟩
theorem hB_w : ∀ k, k < 27 → hB.2.2.1 6 k = lN (c5 (kwL k)) := by decide +kernel
theorem hB_r : hB.2.2.2 0 11 = some 26 ∧ hB.2.2.2 52 4 = some 26 ∧ hB.2.2.2 0 12 = some 14 ∧ hB.2.2.2 0 13 = some 20 := by decide +kernel
theorem hB_11 : ∀ i, i < 5 → hB.2.2.2 11 i = if i = 0 then some 26 else none := by decide +kernel
theorem hB_c1 : (hB.2.1 26 12 = nI 0 ∧ hB.2.1 26 13 = nI 0 ∧ hB.2.1 26 14 = nI 1 ∧ hB.2.1 26 15 = nI 1 ∧ hB.2.1 26 16 = nI 0 ∧ hB.2.1 26 17 = nI 0 ∧ hB.2.1 26 18 = nI 65535) ∧ hB.2.1 35 0 = nI 1 ∧ hB.2.1 36 0 = nI 0 ∧ hB.2.1 27 3 = nI 0 := by decide +kernel
theorem hB_h1 : (hB.2.1 53 4 = nI 0 ∧ hB.2.1 53 5 = nI 0) ∧ (hB.2.1 52 5 = nI 1 ∧ hB.2.1 52 6 = nI 0 ∧ hB.2.1 58 0 = nI 65535 ∧ hB.2.1 59 0 = nI 0) ∧ hB.2.1 14 7 = nI 0 := by decide +kernel
theorem hB_114 : ∀ k, k < 100 → hB.2.1 114 k = if k = 2 then nI 1 else if k = 7 then m1 else nI 0 := by decide +kernel
theorem hB_115 : ∀ k, k < 52 → hB.2.2.1 115 k = if k = 0 then 1 else 0 := by decide +kernel
theorem hB_t : ∀ t, t < 4 → hB.2.1 1 t = -1 ∧ hB.2.1 118 t = -1 := by decide +kernel
theorem hB_s : (hB.2.1 0 17 = nI 0 ∧ hB.2.1 113 3 = nI 0) ∧ (hB.2.2.1 0 18 = hB.2.2.1 113 4 ∧ hB.2.2.1 0 19 = hB.2.2.1 113 5) ∧ (hB.2.1 0 15 = m1 ∧ hB.2.1 113 37 = m1) ∧ (hB.2.1 0 16 = nI 0 ∧ hB.2.1 113 45 = nI 0) ∧ (hB.2.1 4 12 = hB.2.1 113 17 ∧ hB.2.1 4 13 = hB.2.1 113 18) ∧ (hB.2.1 0 14 = nI 0 ∧ hB.2.1 113 47 = nI 0) ∧ hB.2.1 4 6 = nI 0 ∧ hB.2.1 113 11 = nI 0 := by decide +kernel
