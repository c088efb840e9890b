/-! ===== marks: what is copied ===== -/
theorem cp_L {h : aH} (hl : LAY h) {a b n : Nat} (ka : kT a = 20) (kb : kT b = 20) (la : n ≤ lT a) (lb : n ≤ lT b) (hn : n < 2 ^ 31) : cpI h b (nI 0) a (nI 0) (nI n) = some (wI h a (setF (h.2.1 a) 0 n (h.2.1 b))) := by
  have h0 : (nI 0).toNatClampNeg = 0 := rfl
  have hN : (nI n).toNatClampNeg = n := nI_clamp hn
  have hi : inCpD h 20 b (nI 0) a (nI 0) (nI n) = true := by
    rw [inCp_iff]
    refine ⟨by rw [lay_kd hl b (by rw [kb]; decide), kb], by rw [lay_kd hl a (by rw [ka]; decide), ka], by decide, by decide, nI_pos hn, ?_, ?_⟩
    · rw [h0, hN, lay_ln hl b (by rw [kb]; decide), Nat.zero_add]
      exact lb
    · rw [h0, hN, lay_ln hl a (by rw [ka]; decide), Nat.zero_add]
      exact la
  unfold cpI
  rw [if_pos hi, h0, hN]
  have e : va_cpy (h.2.1 b) (h.2.1 a) 0 0 n = setF (h.2.1 a) 0 n (h.2.1 b) := by
    funext k
    unfold va_cpy setF
    rw [Nat.zero_add, Nat.zero_add, Nat.sub_zero]
  unfold hCI
  rw [e]
  rfl
def PA (a : Nat) : Prop := kT a = 8 ∧ (∀ j, j < 4 → rT a j = some (a + (1 + j))) ∧ ∀ j, j < 4 → kT (a + (1 + j)) = 20 ∧ lT (a + (1 + j)) = 30
def MA (a : Nat) : Prop := kT a = 6 ∧ (∀ j, j < 4 → rT a j = some (a + (1 + j))) ∧ ∀ j, j < 4 → kT (a + (1 + j)) = 20 ∧ lT (a + (1 + j)) = 12
theorem pa_14 : PA 14 := by
  unfold PA
  decide +kernel
theorem pa_20 : PA 20 := by
  unfold PA
  decide +kernel
theorem pa_m : ∀ i, i < 3 → PA (78 + 12 * i) := by
  unfold PA
  decide +kernel
theorem ma_53 : MA 53 := by
  unfold MA
  decide +kernel
theorem ma_m : ∀ i, i < 3 → MA (84 + 12 * i) := by
  unfold MA
  decide +kernel
/-- a plan is copied -/
theorem x_cpP {h : aH} (hl : LAY h) {a b : Nat} (pa : PA a) (pb : PA b) (d : b + 4 < a ∨ a + 4 < b) (ha : 0 < a) (ha2 : a < 109) (h7 : h.2.1 b 7 = nI 0 ∨ h.2.1 b 7 = nI 1) : ∃ h', f_X8_copyFrom h a b = some h' ∧ FR h h' [a, a + 1, a + 2, a + 3, a + 4] [] [] [] ∧ h'.2.1 a 6 = h.2.1 b 6 ∧ h'.2.1 a 7 = h.2.1 b 7 ∧ ∀ j, j < 4 → ∀ x, x < 30 → h'.2.1 (a + (1 + j)) x = h.2.1 (b + (1 + j)) x := by
  have rr : ∀ g : aH, LAY g → gR g 8 a 0 = some (a + 1) ∧ gR g 8 a 1 = some (a + 2) ∧ gR g 8 a 2 = some (a + 3) ∧ gR g 8 a 3 = some (a + 4) ∧ gR g 8 b 0 = some (b + 1) ∧ gR g 8 b 1 = some (b + 2) ∧ gR g 8 b 2 = some (b + 3) ∧ gR g 8 b 3 = some (b + 4) ∧ gI g 8 b 6 = some (g.2.1 b 6) ∧ gI g 8 b 7 = some (g.2.1 b 7) ∧ (∀ x, pI g 8 a 6 x = some (hI g a 6 x)) := fun g lg => ⟨gR_L lg pa.1 (by decide) (pa.2.1 0 (by decide)), gR_L lg pa.1 (by decide) (pa.2.1 1 (by decide)), gR_L lg pa.1 (by decide) (pa.2.1 2 (by decide)), gR_L lg pa.1 (by decide) (pa.2.1 3 (by decide)), gR_L lg pb.1 (by decide) (pb.2.1 0 (by decide)), gR_L lg pb.1 (by decide) (pb.2.1 1 (by decide)), gR_L lg pb.1 (by decide) (pb.2.1 2 (by decide)), gR_L lg pb.1 (by decide) (pb.2.1 3 (by decide)), gI_L lg 6 pb.1 (by decide), gI_L lg 7 pb.1 (by decide), fun x => pI_L lg 6 x pa.1 (by decide)⟩
  have cc : ∀ g : aH, LAY g → ∀ j, j < 4 → cpI g (b + (1 + j)) (nI 0) (a + (1 + j)) (nI 0) (nI 30) = some (wI g (a + (1 + j)) (setF (g.2.1 (a + (1 + j))) 0 30 (g.2.1 (b + (1 + j))))) := fun g lg j hj => cp_L lg (pa.2.2 j hj).1 (pb.2.2 j hj).1 (by rw [(pa.2.2 j hj).2]; decide) (by rw [(pb.2.2 j hj).2]; decide) (by decide)
  have c1 : ∀ g : aH, LAY g → cpI g (b + 1) (nI 0) (a + 1) (nI 0) (nI 30) = some (wI g (a + 1) (setF (g.2.1 (a + 1)) 0 30 (g.2.1 (b + 1)))) := fun g lg => cc g lg 0 (by decide)
  have c2 : ∀ g : aH, LAY g → cpI g (b + 2) (nI 0) (a + 2) (nI 0) (nI 30) = some (wI g (a + 2) (setF (g.2.1 (a + 2)) 0 30 (g.2.1 (b + 2)))) := fun g lg => cc g lg 1 (by decide)
  have c3 : ∀ g : aH, LAY g → cpI g (b + 3) (nI 0) (a + 3) (nI 0) (nI 30) = some (wI g (a + 3) (setF (g.2.1 (a + 3)) 0 30 (g.2.1 (b + 3)))) := fun g lg => cc g lg 2 (by decide)
  have c4 : ∀ g : aH, LAY g → cpI g (b + 4) (nI 0) (a + 4) (nI 0) (nI 30) = some (wI g (a + 4) (setF (g.2.1 (a + 4)) 0 30 (g.2.1 (b + 4)))) := fun g lg => cc g lg 3 (by decide)
  have wS : ∀ (g : aH) (j : Nat), 1 ≤ j → j ≤ 4 → ∀ y, y ≠ a + j → (wI g (a + j) (setF (g.2.1 (a + j)) 0 30 (g.2.1 (b + j)))).2.1 y = g.2.1 y := fun g j _ _ y hy => wI_n hy
  obtain ⟨g1, e1⟩ : ∃ g, g = wI h (a + 1) (setF (h.2.1 (a + 1)) 0 30 (h.2.1 (b + 1))) := ⟨_, rfl⟩
  obtain ⟨g2, e2⟩ : ∃ g, g = wI g1 (a + 2) (setF (g1.2.1 (a + 2)) 0 30 (g1.2.1 (b + 2))) := ⟨_, rfl⟩
  obtain ⟨g3, e3⟩ : ∃ g, g = wI g2 (a + 3) (setF (g2.2.1 (a + 3)) 0 30 (g2.2.1 (b + 3))) := ⟨_, rfl⟩
  obtain ⟨g4, e4⟩ : ∃ g, g = wI g3 (a + 4) (setF (g3.2.1 (a + 4)) 0 30 (g3.2.1 (b + 4))) := ⟨_, rfl⟩
  have l1 : LAY g1 := by rw [e1]; exact hl
  have l2 : LAY g2 := by rw [e2]; exact l1
  have l3 : LAY g3 := by rw [e3]; exact l2
  have l4 : LAY g4 := by rw [e4]; exact l3
  have n1 : ∀ y, y ≠ a + 1 → g1.2.1 y = h.2.1 y := fun y hy => by rw [e1]; exact wI_n hy
  have n2 : ∀ y, y ≠ a + 2 → g2.2.1 y = g1.2.1 y := fun y hy => by rw [e2]; exact wI_n hy
  have n3 : ∀ y, y ≠ a + 3 → g3.2.1 y = g2.2.1 y := fun y hy => by rw [e3]; exact wI_n hy
  have n4 : ∀ y, y ≠ a + 4 → g4.2.1 y = g3.2.1 y := fun y hy => by rw [e4]; exact wI_n hy
  have g46 : g4.2.1 b 6 = h.2.1 b 6 := by rw [n4 b (by omega), n3 b (by omega), n2 b (by omega), n1 b (by omega)]
  have g47 : g4.2.1 b 7 = h.2.1 b 7 := by rw [n4 b (by omega), n3 b (by omega), n2 b (by omega), n1 b (by omega)]
  have b7 : (hI g4 a 6 (h.2.1 b 6)).2.1 b 7 = h.2.1 b 7 := by rw [rI_ne (by omega)]; exact g47
  have pz : pZ (hI g4 a 6 (h.2.1 b 6)) 8 a 7 (h.2.1 b 7) = some (hI (hI g4 a 6 (h.2.1 b 6)) a 7 (h.2.1 b 7)) := pZ_L (h := hI g4 a 6 (h.2.1 b 6)) l4 7 _ pa.1 (by decide) (by
    rcases h7 with u | u <;> rw [u]
    · exact Or.inl rfl
    · exact Or.inr rfl)
  have d1 := c1 h hl
  rw [← e1] at d1
  have d2 := c2 g1 l1
  rw [← e2] at d2
  have d3 := c3 g2 l2
  rw [← e3] at d3
  have d4 := c4 g3 l3
  rw [← e4] at d4
  have fm : ∀ {g g' : aH} {j : Nat} {w : Nat → Int32}, j ∈ [a, a + 1, a + 2, a + 3, a + 4] → g' = wI g j w → FR g g' [a, a + 1, a + 2, a + 3, a + 4] [] [] [] := fun hj e => by
    rw [e]
    exact FR.wI hj (by simp at hj; omega) (by simp at hj; omega)
  have ff : FR h (hI (hI g4 a 6 (h.2.1 b 6)) a 7 (h.2.1 b 7)) [a, a + 1, a + 2, a + 3, a + 4] [] [] [] := (((((fm (by simp) e1).tr (fm (by simp) e2)).tr (fm (by simp) e3)).tr (fm (by simp) e4)).tr (FR.hI (by simp) (by omega) (by omega))).tr (FR.hI (by simp) (by omega) (by omega))
  refine ⟨hI (hI g4 a 6 (h.2.1 b 6)) a 7 (h.2.1 b 7), ?_, ff, ?_, ?_, fun j hj x hx => ?_⟩
  · simp (disch := first | assumption | omega | decide | ((repeat first | apply lyI | apply lyJ | apply lywI | apply lywJ | apply csI | apply csJ | apply cswI | apply cswJ); assumption)) only [f_X8_copyFrom, rr, LI, ↓li_m1, nI_add, pk_mul, nn_sub, nn_m1, nn_div, nn_rem, nn_nz, nn_mod, nJ_l, lN_add, lN_mul, nn_tb1, nI_bt, nn_and, nn_or, nn_xor, nn_shr, nn_1shl, nn_31, il_p, il_n, it_p, it_n, ie_p, ie_n, ie_b, ie_b1, ie_m, ie_mm, it_m, it_m0, il_m0, bI_rZ, Option.bind_some, bd2_some, Nat.add_zero, Nat.zero_add, if_true, if_false, Bool.false_eq_true, eq_self, hI_R, hJ_R, ng_t, ng_e, d1, d2, d3, d4, g46, b7, pz]
  · rw [rI_nk (by decide), rI_eq]
  · rw [rI_eq]
  · rw [rI_ne (by omega), rI_ne (by omega)]
    rcases lt4 hj with rfl | rfl | rfl | rfl
    · show g4.2.1 (a + 1) x = h.2.1 (b + 1) x
      rw [n4 _ (by omega), n3 _ (by omega), n2 _ (by omega), e1, wI_s, setF_in0 hx]
    · show g4.2.1 (a + 2) x = h.2.1 (b + 2) x
      rw [n4 _ (by omega), n3 _ (by omega), e2, wI_s, setF_in0 hx, n1 _ (by omega)]
    · show g4.2.1 (a + 3) x = h.2.1 (b + 3) x
      rw [n4 _ (by omega), e3, wI_s, setF_in0 hx, n2 _ (by omega), n1 _ (by omega)]
    · show g4.2.1 (a + 4) x = h.2.1 (b + 4) x
      rw [e4, wI_s, setF_in0 hx, n3 _ (by omega), n2 _ (by omega), n1 _ (by omega)]
/-- minutes are copied -/
theorem x_cpM {h : aH} (hl : LAY h) {a b : Nat} (pa : MA a) (pb : MA b) (d : b + 4 < a ∨ a + 4 < b) (ha : 0 < a) (ha2 : a < 109) : ∃ h', f_X6_copyFrom h a b = some h' ∧ FR h h' [a, a + 1, a + 2, a + 3, a + 4] [] [] [] ∧ h'.2.1 a 4 = h.2.1 b 4 ∧ h'.2.1 a 5 = h.2.1 b 5 ∧ ∀ j, j < 4 → ∀ x, x < 12 → h'.2.1 (a + (1 + j)) x = h.2.1 (b + (1 + j)) x := by
  have rr : ∀ g : aH, LAY g → gR g 6 a 0 = some (a + 1) ∧ gR g 6 a 1 = some (a + 2) ∧ gR g 6 a 2 = some (a + 3) ∧ gR g 6 a 3 = some (a + 4) ∧ gR g 6 b 0 = some (b + 1) ∧ gR g 6 b 1 = some (b + 2) ∧ gR g 6 b 2 = some (b + 3) ∧ gR g 6 b 3 = some (b + 4) ∧ gI g 6 b 4 = some (g.2.1 b 4) ∧ gI g 6 b 5 = some (g.2.1 b 5) ∧ (∀ x, pI g 6 a 4 x = some (hI g a 4 x)) ∧ (∀ x, pI g 6 a 5 x = some (hI g a 5 x)) := fun g lg => ⟨gR_L lg pa.1 (by decide) (pa.2.1 0 (by decide)), gR_L lg pa.1 (by decide) (pa.2.1 1 (by decide)), gR_L lg pa.1 (by decide) (pa.2.1 2 (by decide)), gR_L lg pa.1 (by decide) (pa.2.1 3 (by decide)), gR_L lg pb.1 (by decide) (pb.2.1 0 (by decide)), gR_L lg pb.1 (by decide) (pb.2.1 1 (by decide)), gR_L lg pb.1 (by decide) (pb.2.1 2 (by decide)), gR_L lg pb.1 (by decide) (pb.2.1 3 (by decide)), gI_L lg 4 pb.1 (by decide), gI_L lg 5 pb.1 (by decide), fun x => pI_L lg 4 x pa.1 (by decide), fun x => pI_L lg 5 x pa.1 (by decide)⟩
  have cc : ∀ g : aH, LAY g → ∀ j, j < 4 → cpI g (b + (1 + j)) (nI 0) (a + (1 + j)) (nI 0) (nI 12) = some (wI g (a + (1 + j)) (setF (g.2.1 (a + (1 + j))) 0 12 (g.2.1 (b + (1 + j))))) := fun g lg j hj => cp_L lg (pa.2.2 j hj).1 (pb.2.2 j hj).1 (by rw [(pa.2.2 j hj).2]; decide) (by rw [(pb.2.2 j hj).2]; decide) (by decide)
  obtain ⟨g1, e1⟩ : ∃ g, g = wI h (a + 1) (setF (h.2.1 (a + 1)) 0 12 (h.2.1 (b + 1))) := ⟨_, rfl⟩
  obtain ⟨g2, e2⟩ : ∃ g, g = wI g1 (a + 2) (setF (g1.2.1 (a + 2)) 0 12 (g1.2.1 (b + 2))) := ⟨_, rfl⟩
  obtain ⟨g3, e3⟩ : ∃ g, g = wI g2 (a + 3) (setF (g2.2.1 (a + 3)) 0 12 (g2.2.1 (b + 3))) := ⟨_, rfl⟩
  obtain ⟨g4, e4⟩ : ∃ g, g = wI g3 (a + 4) (setF (g3.2.1 (a + 4)) 0 12 (g3.2.1 (b + 4))) := ⟨_, rfl⟩
  have l1 : LAY g1 := by rw [e1]; exact hl
  have l2 : LAY g2 := by rw [e2]; exact l1
  have l3 : LAY g3 := by rw [e3]; exact l2
  have l4 : LAY g4 := by rw [e4]; exact l3
  have n1 : ∀ y, y ≠ a + 1 → g1.2.1 y = h.2.1 y := fun y hy => by rw [e1]; exact wI_n hy
  have n2 : ∀ y, y ≠ a + 2 → g2.2.1 y = g1.2.1 y := fun y hy => by rw [e2]; exact wI_n hy
  have n3 : ∀ y, y ≠ a + 3 → g3.2.1 y = g2.2.1 y := fun y hy => by rw [e3]; exact wI_n hy
  have n4 : ∀ y, y ≠ a + 4 → g4.2.1 y = g3.2.1 y := fun y hy => by rw [e4]; exact wI_n hy
  have g46 : g4.2.1 b 4 = h.2.1 b 4 := by rw [n4 b (by omega), n3 b (by omega), n2 b (by omega), n1 b (by omega)]
  have b7 : (hI g4 a 4 (h.2.1 b 4)).2.1 b 5 = h.2.1 b 5 := by rw [rI_ne (by omega), n4 b (by omega), n3 b (by omega), n2 b (by omega), n1 b (by omega)]
  have d1 : cpI h (b + 1) (nI 0) (a + 1) (nI 0) (nI 12) = some g1 := by rw [e1]; exact cc h hl 0 (by decide)
  have d2 : cpI g1 (b + 2) (nI 0) (a + 2) (nI 0) (nI 12) = some g2 := by rw [e2]; exact cc g1 l1 1 (by decide)
  have d3 : cpI g2 (b + 3) (nI 0) (a + 3) (nI 0) (nI 12) = some g3 := by rw [e3]; exact cc g2 l2 2 (by decide)
  have d4 : cpI g3 (b + 4) (nI 0) (a + 4) (nI 0) (nI 12) = some g4 := by rw [e4]; exact cc g3 l3 3 (by decide)
  have fm : ∀ {g g' : aH} {j : Nat} {w : Nat → Int32}, j ∈ [a, a + 1, a + 2, a + 3, a + 4] → g' = wI g j w → FR g g' [a, a + 1, a + 2, a + 3, a + 4] [] [] [] := fun hj e => by
    rw [e]
    exact FR.wI hj (by simp at hj; omega) (by simp at hj; omega)
  have ff : FR h (hI (hI g4 a 4 (h.2.1 b 4)) a 5 (h.2.1 b 5)) [a, a + 1, a + 2, a + 3, a + 4] [] [] [] := (((((fm (by simp) e1).tr (fm (by simp) e2)).tr (fm (by simp) e3)).tr (fm (by simp) e4)).tr (FR.hI (by simp) (by omega) (by omega))).tr (FR.hI (by simp) (by omega) (by omega))
  refine ⟨hI (hI g4 a 4 (h.2.1 b 4)) a 5 (h.2.1 b 5), ?_, ff, ?_, ?_, fun j hj x hx => ?_⟩
  · simp (disch := first | assumption | omega | decide | ((repeat first | apply lyI | apply lyJ | apply lywI | apply lywJ | apply csI | apply csJ | apply cswI | apply cswJ); assumption)) only [f_X6_copyFrom, rr, LI, ↓li_m1, nI_add, pk_mul, nn_sub, nn_m1, nn_div, nn_rem, nn_nz, nn_mod, nJ_l, lN_add, lN_mul, nn_tb1, nI_bt, nn_and, nn_or, nn_xor, nn_shr, nn_1shl, nn_31, il_p, il_n, it_p, it_n, ie_p, ie_n, ie_b, ie_b1, ie_m, ie_mm, it_m, it_m0, il_m0, bI_rZ, Option.bind_some, bd2_some, Nat.add_zero, Nat.zero_add, if_true, if_false, Bool.false_eq_true, eq_self, hI_R, hJ_R, ng_t, ng_e, d1, d2, d3, d4, g46, b7]
  · rw [rI_nk (by decide), rI_eq]
  · rw [rI_eq]
  · rw [rI_ne (by omega), rI_ne (by omega)]
    rcases lt4 hj with rfl | rfl | rfl | rfl
    · show g4.2.1 (a + 1) x = h.2.1 (b + 1) x
      rw [n4 _ (by omega), n3 _ (by omega), n2 _ (by omega), e1, wI_s, setF_in0 hx]
    · show g4.2.1 (a + 2) x = h.2.1 (b + 2) x
      rw [n4 _ (by omega), n3 _ (by omega), e2, wI_s, setF_in0 hx, n1 _ (by omega)]
    · show g4.2.1 (a + 3) x = h.2.1 (b + 3) x
      rw [n4 _ (by omega), e3, wI_s, setF_in0 hx, n2 _ (by omega), n1 _ (by omega)]
    · show g4.2.1 (a + 4) x = h.2.1 (b + 4) x
      rw [e4, wI_s, setF_in0 hx, n3 _ (by omega), n2 _ (by omega), n1 _ (by omega)]
/-- the reference's slots are copied -/
def cpS (h : aH) (a b : Nat) : aH := wJ (wJ (wI h 114 (setF (h.2.1 114) (400 * b) 400 (fun x => h.2.1 114 (400 * a + x)))) 115 (setF (h.2.2.1 115) (52 * b) 52 (fun x => h.2.2.1 115 (52 * a + x)))) 116 (setF (h.2.2.1 116) (44 * b) 44 (fun x => h.2.2.1 116 (44 * a + x)))
theorem r_copies {h : aH} (hl : LAY h) {a b : Nat} (ha : a < 4) (hb : b < 4) (hab : a ≠ b) : f_X12_copies h 113 (nI a) (nI b) = some (cpS h a b) := by
  have e1 : ∀ h : aH, LAY h → f_X12_copies_l2 113 (nI a) (nI b) (nI 0) h = some (wI h 114 (setF (h.2.1 114) (400 * b) 400 (fun x => h.2.1 114 (400 * a + x)))) := fun h hl => by
    refine for0 (body := fun zz : Int32 × aH => f_X12_copies_b2 113 (nI a) (nI b) zz.1 zz.2) (fun j => (nI j, wI h 114 (setF (h.2.1 114) (400 * b) j (fun x => h.2.1 114 (400 * a + x))))) (400) (e := wI h 114 (setF (h.2.1 114) (400 * b) 400 (fun x => h.2.1 114 (400 * a + x)))) (by rw [setF_0, wI_self]) (by omega) (fun j hj => ?_) ?_
    · rw [← setF_s, ← hI_set]
      have rd : (wI h 114 (setF (h.2.1 114) (400 * b) j (fun x => h.2.1 114 (400 * a + x)))).2.1 114 (400 * a + j) = h.2.1 114 (400 * a + j) := by rw [wI_s, setF_out (by omega)]
      simp (disch := first | assumption | omega | decide | ((repeat first | apply lyI | apply lyJ | apply lywI | apply lywJ | apply csI | apply csJ | apply cswI | apply cswJ); assumption)) only [f_X12_copies_b2, SM, LI, ↓li_m1, nI_add, pk_mul, nn_sub, nn_m1, nn_div, nn_rem, nn_nz, nn_mod, nJ_l, lN_add, lN_mul, nn_tb1, nI_bt, nn_and, nn_or, nn_xor, nn_shr, nn_1shl, nn_31, il_p, il_n, it_p, it_n, ie_p, ie_n, ie_b, ie_b1, ie_m, ie_mm, it_m, it_m0, il_m0, bI_rZ, Option.bind_some, bd2_some, Nat.add_zero, Nat.zero_add, if_true, if_false, Bool.false_eq_true, eq_self, hI_R, hJ_R, ng_t, ng_e, rd]
    · simp (disch := first | assumption | omega | decide | ((repeat first | apply lyI | apply lyJ | apply lywI | apply lywJ | apply csI | apply csJ | apply cswI | apply cswJ); assumption)) only [f_X12_copies_b2, SM, LI, ↓li_m1, nI_add, pk_mul, nn_sub, nn_m1, nn_div, nn_rem, nn_nz, nn_mod, nJ_l, lN_add, lN_mul, nn_tb1, nI_bt, nn_and, nn_or, nn_xor, nn_shr, nn_1shl, nn_31, il_p, il_n, it_p, it_n, ie_p, ie_n, ie_b, ie_b1, ie_m, ie_mm, it_m, it_m0, il_m0, bI_rZ, Option.bind_some, bd2_some, Nat.add_zero, Nat.zero_add, if_true, if_false, Bool.false_eq_true, eq_self, hI_R, hJ_R, ng_t, ng_e]
  have e2 : ∀ h : aH, LAY h → f_X12_copies_l41 113 (nI a) (nI b) (nI 0) h = some (wJ h 115 (setF (h.2.2.1 115) (52 * b) 52 (fun x => h.2.2.1 115 (52 * a + x)))) := fun h hl => by
    refine for0 (body := fun zz : Int32 × aH => f_X12_copies_b41 113 (nI a) (nI b) zz.1 zz.2) (fun j => (nI j, wJ h 115 (setF (h.2.2.1 115) (52 * b) j (fun x => h.2.2.1 115 (52 * a + x))))) (52) (e := wJ h 115 (setF (h.2.2.1 115) (52 * b) 52 (fun x => h.2.2.1 115 (52 * a + x)))) (by rw [setF_0, wJ_self]) (by omega) (fun j hj => ?_) ?_
    · rw [← setF_s, ← hJ_set]
      have rd : (wJ h 115 (setF (h.2.2.1 115) (52 * b) j (fun x => h.2.2.1 115 (52 * a + x)))).2.2.1 115 (52 * a + j) = h.2.2.1 115 (52 * a + j) := by rw [wJ_s, setF_out (by omega)]
      simp (disch := first | assumption | omega | decide | ((repeat first | apply lyI | apply lyJ | apply lywI | apply lywJ | apply csI | apply csJ | apply cswI | apply cswJ); assumption)) only [f_X12_copies_b41, SM, LI, ↓li_m1, nI_add, pk_mul, nn_sub, nn_m1, nn_div, nn_rem, nn_nz, nn_mod, nJ_l, lN_add, lN_mul, nn_tb1, nI_bt, nn_and, nn_or, nn_xor, nn_shr, nn_1shl, nn_31, il_p, il_n, it_p, it_n, ie_p, ie_n, ie_b, ie_b1, ie_m, ie_mm, it_m, it_m0, il_m0, bI_rZ, Option.bind_some, bd2_some, Nat.add_zero, Nat.zero_add, if_true, if_false, Bool.false_eq_true, eq_self, hI_R, hJ_R, ng_t, ng_e, rd]
    · simp (disch := first | assumption | omega | decide | ((repeat first | apply lyI | apply lyJ | apply lywI | apply lywJ | apply csI | apply csJ | apply cswI | apply cswJ); assumption)) only [f_X12_copies_b41, SM, LI, ↓li_m1, nI_add, pk_mul, nn_sub, nn_m1, nn_div, nn_rem, nn_nz, nn_mod, nJ_l, lN_add, lN_mul, nn_tb1, nI_bt, nn_and, nn_or, nn_xor, nn_shr, nn_1shl, nn_31, il_p, il_n, it_p, it_n, ie_p, ie_n, ie_b, ie_b1, ie_m, ie_mm, it_m, it_m0, il_m0, bI_rZ, Option.bind_some, bd2_some, Nat.add_zero, Nat.zero_add, if_true, if_false, Bool.false_eq_true, eq_self, hI_R, hJ_R, ng_t, ng_e]
  have e3 : ∀ h : aH, LAY h → f_X12_copies_l77 113 (nI a) (nI b) (nI 0) h = some (wJ h 116 (setF (h.2.2.1 116) (44 * b) 44 (fun x => h.2.2.1 116 (44 * a + x)))) := fun h hl => by
    refine for0 (body := fun zz : Int32 × aH => f_X12_copies_b77 113 (nI a) (nI b) zz.1 zz.2) (fun j => (nI j, wJ h 116 (setF (h.2.2.1 116) (44 * b) j (fun x => h.2.2.1 116 (44 * a + x))))) (44) (e := wJ h 116 (setF (h.2.2.1 116) (44 * b) 44 (fun x => h.2.2.1 116 (44 * a + x)))) (by rw [setF_0, wJ_self]) (by omega) (fun j hj => ?_) ?_
    · rw [← setF_s, ← hJ_set]
      have rd : (wJ h 116 (setF (h.2.2.1 116) (44 * b) j (fun x => h.2.2.1 116 (44 * a + x)))).2.2.1 116 (44 * a + j) = h.2.2.1 116 (44 * a + j) := by rw [wJ_s, setF_out (by omega)]
      simp (disch := first | assumption | omega | decide | ((repeat first | apply lyI | apply lyJ | apply lywI | apply lywJ | apply csI | apply csJ | apply cswI | apply cswJ); assumption)) only [f_X12_copies_b77, SM, LI, ↓li_m1, nI_add, pk_mul, nn_sub, nn_m1, nn_div, nn_rem, nn_nz, nn_mod, nJ_l, lN_add, lN_mul, nn_tb1, nI_bt, nn_and, nn_or, nn_xor, nn_shr, nn_1shl, nn_31, il_p, il_n, it_p, it_n, ie_p, ie_n, ie_b, ie_b1, ie_m, ie_mm, it_m, it_m0, il_m0, bI_rZ, Option.bind_some, bd2_some, Nat.add_zero, Nat.zero_add, if_true, if_false, Bool.false_eq_true, eq_self, hI_R, hJ_R, ng_t, ng_e, rd]
    · simp (disch := first | assumption | omega | decide | ((repeat first | apply lyI | apply lyJ | apply lywI | apply lywJ | apply csI | apply csJ | apply cswI | apply cswJ); assumption)) only [f_X12_copies_b77, SM, LI, ↓li_m1, nI_add, pk_mul, nn_sub, nn_m1, nn_div, nn_rem, nn_nz, nn_mod, nJ_l, lN_add, lN_mul, nn_tb1, nI_bt, nn_and, nn_or, nn_xor, nn_shr, nn_1shl, nn_31, il_p, il_n, it_p, it_n, ie_p, ie_n, ie_b, ie_b1, ie_m, ie_mm, it_m, it_m0, il_m0, bI_rZ, Option.bind_some, bd2_some, Nat.add_zero, Nat.zero_add, if_true, if_false, Bool.false_eq_true, eq_self, hI_R, hJ_R, ng_t, ng_e]
  unfold f_X12_copies
  rw [show (0 : Int32) = nI 0 from rfl, e1 h hl, Option.bind_some, e2 (wI h 114 _) hl, Option.bind_some, e3 (wJ (wI h 114 _) 115 _) hl, Option.bind_some]
  rfl
