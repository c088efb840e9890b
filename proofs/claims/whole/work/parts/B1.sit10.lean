/-! ===== a sitting: a row of the reference's plan ===== -/
/-- the plan's rows as the reference holds them -/
def PR (h : aH) (K : Nat → Nat → Nat) (N : Nat) : Prop := h.2.1 114 7 = nI N ∧ ∀ k i, k < N → i < 4 → h.2.1 114 (148 + 4 * k + i) = nI (K k i)
theorem pr_kp {h h' : aH} {K : Nat → Nat → Nat} {N : Nat} (kp : KP h h') (pr : PR h K N) : PR h' K N := ⟨kp.2.trans pr.1, fun k i hk hi => (kp.1 _ (by omega)).trans (pr.2 k i hk hi)⟩
theorem d_tail {g : aH} {k w : Nat} {r v5 : Int32} (hw : w < 2100) : f_X12_doesStep_j137 g 113 (nI k) r (nI w) = some (nI (k + 1), g) := by
  unfold f_X12_doesStep_j137
  rw [if_pos (show nI w < (2100 : Int32) from nI_lt (b := 2100) hw (by decide)), show nI k + (1 : Int32) = nI (k + 1) from nI_1 k]
theorem d_ne {a : Nat} {b : Nat} (ha : a < 3000) (hb : b < 3000) (h : a ≠ b) : ¬ nI a = nI b := fun e => h ((nI_eq (by omega) (by omega)).mp e)
theorem d_114 {g : aH} {k w : Nat} {r v5 : Int32} (hw : w < 2100) (h20 : w ≠ 20) : f_X12_doesStep_j114 g 113 (nI k) r (nI w) v5 = some (nI (k + 1), g) := by
  unfold f_X12_doesStep_j114
  rw [if_neg (show ¬ nI w = (20 : Int32) from d_ne (b := 20) (by omega) (by decide) h20)]
  exact d_tail (v5 := v5) hw
theorem d_98 {g : aH} {k w : Nat} {r v5 : Int32} (hw : w < 2100) (h20 : w ≠ 20) (h19 : w ≠ 19) : f_X12_doesStep_j98 g 113 (nI k) r (nI w) v5 = some (nI (k + 1), g) := by
  unfold f_X12_doesStep_j98
  rw [if_neg (show ¬ nI w = (19 : Int32) from d_ne (b := 19) (by omega) (by decide) h19)]
  exact d_114 hw h20
theorem d_67 {g : aH} {k w : Nat} {r v4 v5 : Int32} (h18 : w ≠ 18) (hw : w < 3000) : f_X12_doesStep_j67 g 113 (nI k) r (nI w) v4 v5 = f_X12_doesStep_j98 g 113 (nI k) r (nI w) v5 := by
  unfold f_X12_doesStep_j67
  rw [if_neg (show ¬ nI w = (18 : Int32) from d_ne (b := 18) hw (by decide) h18)]
/-- the row is read -/
theorem d_head {h : aH} (hl : LAY h) {K : Nat → Nat → Nat} {N k : Nat} (pr : PR h K N) (hk : k < N) (hN : N ≤ 60) (h17 : K k 0 ≠ 17) (hK : K k 0 < 3000) : f_X12_doesStep h 113 (nI k) = f_X12_doesStep_j67 h 113 (nI k) (nI (148 + 4 * k)) (nI (K k 0)) (nI (K k 1)) (nI (K k 2)) := by
  have e0 := pr.2 k 0 hk (by decide)
  have e1 := pr.2 k 1 hk (by decide)
  have e2 := pr.2 k 2 hk (by decide)
  rw [Nat.add_zero] at e0
  have u0 : gR h 12 113 0 = some 114 := gR_L hl (by decide) (by decide) (by decide +kernel)
  have t : (148 : Int32) + (4 : Int32) * nI k = nI (148 + 4 * k) := by
    rw [show (4 : Int32) = nI 4 from rfl, pk_mul, show (148 : Int32) = nI 148 from rfl, nI_add]
  have w0 : lI h 114 (nI (148 + 4 * k)) = some (nI (K k 0)) := (lI_L hl (by decide) (show 148 + 4 * k < 2000 by omega)).trans (congrArg some e0)
  have w1 : lI h 114 (nI (148 + 4 * k) + (1 : Int32)) = some (nI (K k 1)) := by
    rw [show (1 : Int32) = nI 1 from rfl, nI_add]
    exact (lI_L hl (by decide) (show 148 + 4 * k + 1 < 2000 by omega)).trans (congrArg some e1)
  have w2 : lI h 114 (nI (148 + 4 * k) + (2 : Int32)) = some (nI (K k 2)) := by
    rw [show (2 : Int32) = nI 2 from rfl, nI_add]
    exact (lI_L hl (by decide) (show 148 + 4 * k + 2 < 2000 by omega)).trans (congrArg some e2)
  unfold f_X12_doesStep
  rw [t, Option.bind_some, u0, Option.bind_some, w0, Option.bind_some, Option.bind_some, w1, Option.bind_some, Option.bind_some, w2, Option.bind_some, if_neg (show ¬ nI (K k 0) = (17 : Int32) from d_ne (b := 17) hK (by decide) h17)]
