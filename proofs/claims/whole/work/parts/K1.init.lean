/-! ===== the constructors, by evaluation ===== -/
def hA : aH := (f_X11_init (hN h00 11 20) 0).getD h00
theorem hA_ok : (f_X11_init (hN h00 11 20) 0).isSome = true := by decide +kernel
theorem hA_sh : hA.1 = SH0.take 113 := by decide +kernel
theorem hA_w : ∀ k, k < 27 → hA.2.2.1 6 k = lN (c5 (kwL k)) := by decide +kernel
