/-! ===== a new case ===== -/
/-- g is h with cells more -/
def EXt (h g : aH) (L : List (Nat × Nat)) : Prop := g.1 = h.1 ++ L ∧ ∀ y, y < h.1.length → g.2.1 y = h.2.1 y ∧ g.2.2.1 y = h.2.2.1 y ∧ g.2.2.2 y = h.2.2.2 y
theorem ex_N {h g : aH} {L : List (Nat × Nat)} (e : EXt h g L) {c l a n : Nat} (hc : h.1.length = c) (hl : L.length = l) : nwO g a n = some (c + l, hN g a n) ∧ EXt h (hN g a n) (L ++ [(a, n)]) ∧ ∀ y k, y ≠ c + l → (hN g a n).2.2.2 y k = g.2.2.2 y k := by
  have gl : g.1.length = c + l := by rw [e.1, List.length_append, hc, hl]
  refine ⟨by unfold nwO; rw [gl], ⟨?_, fun y hy => ?_⟩, fun y k hy => ?_⟩
  · show g.1 ++ [(a, n)] = _
    rw [e.1, List.append_assoc]
  · obtain ⟨e1, e2, e3⟩ := e.2 y hy
    have ny : ¬ y = g.1.length := by omega
    refine ⟨?_, ?_, ?_⟩
    · show zr g.2.1 g.1.length 0 y = _
      unfold zr
      rw [if_neg ny]
      exact e1
    · show zr g.2.2.1 g.1.length 0 y = _
      unfold zr
      rw [if_neg ny]
      exact e2
    · show zr g.2.2.2 g.1.length none y = _
      unfold zr
      rw [if_neg ny]
      exact e3
  · show zr g.2.2.2 g.1.length none y k = _
    unfold zr
    rw [if_neg (by omega)]
theorem ex_kd {h g : aH} {L : List (Nat × Nat)} (e : EXt h g L) {c j : Nat} (hc : h.1.length = c) : kd g (c + j) = (L.getD j (99, 0)).1 := by
  unfold kd
  rw [e.1, ← hc, List.getD_eq_getElem?_getD, List.getD_eq_getElem?_getD, List.getElem?_append_right (Nat.le_add_right _ _), Nat.add_sub_cancel_left]
theorem ex_R {h g : aH} {L : List (Nat × Nat)} (e : EXt h g L) {c j q k : Nat} {x : Nat} (hc : h.1.length = c) (hk : (L.getD j (99, 0)).1 = q) : pR g q (c + j) k x = some (hR g (c + j) k (some x)) ∧ EXt h (hR g (c + j) k (some x)) L := by
  refine ⟨by unfold pR; rw [ex_kd e hc, if_pos hk], e.1, fun y hy => ?_⟩
  obtain ⟨e1, e2, e3⟩ := e.2 y hy
  refine ⟨e1, e2, ?_⟩
  funext z
  rw [rR_hR, if_neg (by omega), e3]
theorem ex_I {h g : aH} {L : List (Nat × Nat)} (e : EXt h g L) {c j q k : Nat} {x : Int32} (hc : h.1.length = c) (hk : (L.getD j (99, 0)).1 = q) : pI g q (c + j) k x = some (hI g (c + j) k x) ∧ EXt h (hI g (c + j) k x) L := by
  refine ⟨by unfold pI; rw [ex_kd e hc, if_pos hk], e.1, fun y hy => ?_⟩
  obtain ⟨e1, e2, e3⟩ := e.2 y hy
  refine ⟨?_, e2, e3⟩
  funext z
  rw [rI_hI, if_neg (by omega), e1]
theorem x_init1 {h : aH} {c : Nat} (hc : h.1.length = c) (c136 : 136 ≤ c) : ∃ g, f_X1_init (hN h 1 19) c = (ck g 1 c).bind (fun _ => (f_X1_clear g c).bind fun h38 => some h38) ∧ EXt h g ((SH0.drop 26).take 16) ∧ CS g c := by
  obtain ⟨-, e0, r0⟩ := ex_N (h := h) (g := h) (L := []) ⟨(List.append_nil _).symm, fun _ _ => ⟨rfl, rfl, rfl⟩⟩ hc rfl (a := 1) (n := 19)
  rw [Nat.add_zero] at r0
  have e0' : EXt h (hN h 1 19) [(1, 19)] := e0
  obtain ⟨n1, x1, r1⟩ := ex_N e0' hc (l := 1) rfl (a := 7) (n := 4)
  obtain ⟨g1, hg1⟩ : ∃ g, g = hN (hN h 1 19) 7 4 := ⟨_, rfl⟩
  rw [← hg1] at n1 x1 r1
  have y1 : EXt h g1 [(1, 19), (7, 4)] := x1
  obtain ⟨n2, x2, r2⟩ := ex_N y1 hc (l := 2) rfl (a := 21) (n := 44)
  obtain ⟨g2, hg2⟩ : ∃ g, g = hN g1 21 44 := ⟨_, rfl⟩
  rw [← hg2] at n2 x2 r2
  have y2 : EXt h g2 [(1, 19), (7, 4), (21, 44)] := x2
  obtain ⟨n3, x3⟩ := ex_R (k := 0) (x := c + 2) (j := 1) (q := 7) y2 hc rfl
  obtain ⟨g3, hg3⟩ : ∃ g, g = hR g2 (c + 1) 0 (some (c + 2)) := ⟨_, rfl⟩
  rw [← hg3] at n3 x3
  have y3 : EXt h g3 [(1, 19), (7, 4), (21, 44)] := x3
  have r3 : ∀ y k, ¬ (y = c + 1 ∧ k = 0) → g3.2.2.2 y k = g2.2.2.2 y k := fun y k hyk => by rw [hg3, rR_hR, if_neg hyk]
  have s3 : g3.2.2.2 (c + 1) 0 = some (c + 2) := by rw [hg3, rR_hR, if_pos ⟨rfl, rfl⟩]
  obtain ⟨n4, x4, r4⟩ := ex_N y3 hc (l := 3) rfl (a := 20) (n := 44)
  obtain ⟨g4, hg4⟩ : ∃ g, g = hN g3 20 44 := ⟨_, rfl⟩
  rw [← hg4] at n4 x4 r4
  have y4 : EXt h g4 [(1, 19), (7, 4), (21, 44), (20, 44)] := x4
  obtain ⟨n5, x5⟩ := ex_R (k := 1) (x := c + 3) (j := 1) (q := 7) y4 hc rfl
  obtain ⟨g5, hg5⟩ : ∃ g, g = hR g4 (c + 1) 1 (some (c + 3)) := ⟨_, rfl⟩
  rw [← hg5] at n5 x5
  have y5 : EXt h g5 [(1, 19), (7, 4), (21, 44), (20, 44)] := x5
  have r5 : ∀ y k, ¬ (y = c + 1 ∧ k = 1) → g5.2.2.2 y k = g4.2.2.2 y k := fun y k hyk => by rw [hg5, rR_hR, if_neg hyk]
  have s5 : g5.2.2.2 (c + 1) 1 = some (c + 3) := by rw [hg5, rR_hR, if_pos ⟨rfl, rfl⟩]
  obtain ⟨n6, x6, r6⟩ := ex_N y5 hc (l := 4) rfl (a := 20) (n := 44)
  obtain ⟨g6, hg6⟩ : ∃ g, g = hN g5 20 44 := ⟨_, rfl⟩
  rw [← hg6] at n6 x6 r6
  have y6 : EXt h g6 [(1, 19), (7, 4), (21, 44), (20, 44), (20, 44)] := x6
  obtain ⟨n7, x7⟩ := ex_R (k := 2) (x := c + 4) (j := 1) (q := 7) y6 hc rfl
  obtain ⟨g7, hg7⟩ : ∃ g, g = hR g6 (c + 1) 2 (some (c + 4)) := ⟨_, rfl⟩
  rw [← hg7] at n7 x7
  have y7 : EXt h g7 [(1, 19), (7, 4), (21, 44), (20, 44), (20, 44)] := x7
  have r7 : ∀ y k, ¬ (y = c + 1 ∧ k = 2) → g7.2.2.2 y k = g6.2.2.2 y k := fun y k hyk => by rw [hg7, rR_hR, if_neg hyk]
  have s7 : g7.2.2.2 (c + 1) 2 = some (c + 4) := by rw [hg7, rR_hR, if_pos ⟨rfl, rfl⟩]
  obtain ⟨n8, x8⟩ := ex_I (k := 3) (x := nI 0) (j := 1) (q := 7) y7 hc rfl
  obtain ⟨g8, hg8⟩ : ∃ g, g = hI g7 (c + 1) 3 (nI 0) := ⟨_, rfl⟩
  rw [← hg8] at n8 x8
  have y8 : EXt h g8 [(1, 19), (7, 4), (21, 44), (20, 44), (20, 44)] := x8
  have r8 : ∀ y k, g8.2.2.2 y k = g7.2.2.2 y k := fun y k => by rw [hg8]; rfl
  obtain ⟨n9, x9⟩ := ex_R (k := 0) (x := c + 1) (j := 0) (q := 1) y8 hc rfl
  obtain ⟨g9, hg9⟩ : ∃ g, g = hR g8 (c + 0) 0 (some (c + 1)) := ⟨_, rfl⟩
  rw [← hg9] at n9 x9
  have y9 : EXt h g9 [(1, 19), (7, 4), (21, 44), (20, 44), (20, 44)] := x9
  have r9 : ∀ y k, ¬ (y = c + 0 ∧ k = 0) → g9.2.2.2 y k = g8.2.2.2 y k := fun y k hyk => by rw [hg9, rR_hR, if_neg hyk]
  have s9 : g9.2.2.2 (c + 0) 0 = some (c + 1) := by rw [hg9, rR_hR, if_pos ⟨rfl, rfl⟩]
  obtain ⟨n10, x10, r10⟩ := ex_N y9 hc (l := 5) rfl (a := 20) (n := 5)
  obtain ⟨g10, hg10⟩ : ∃ g, g = hN g9 20 5 := ⟨_, rfl⟩
  rw [← hg10] at n10 x10 r10
  have y10 : EXt h g10 [(1, 19), (7, 4), (21, 44), (20, 44), (20, 44), (20, 5)] := x10
  obtain ⟨n11, x11⟩ := ex_R (k := 1) (x := c + 5) (j := 0) (q := 1) y10 hc rfl
  obtain ⟨g11, hg11⟩ : ∃ g, g = hR g10 (c + 0) 1 (some (c + 5)) := ⟨_, rfl⟩
  rw [← hg11] at n11 x11
  have y11 : EXt h g11 [(1, 19), (7, 4), (21, 44), (20, 44), (20, 44), (20, 5)] := x11
  have r11 : ∀ y k, ¬ (y = c + 0 ∧ k = 1) → g11.2.2.2 y k = g10.2.2.2 y k := fun y k hyk => by rw [hg11, rR_hR, if_neg hyk]
  have s11 : g11.2.2.2 (c + 0) 1 = some (c + 5) := by rw [hg11, rR_hR, if_pos ⟨rfl, rfl⟩]
  obtain ⟨n12, x12, r12⟩ := ex_N y11 hc (l := 6) rfl (a := 20) (n := 4)
  obtain ⟨g12, hg12⟩ : ∃ g, g = hN g11 20 4 := ⟨_, rfl⟩
  rw [← hg12] at n12 x12 r12
  have y12 : EXt h g12 [(1, 19), (7, 4), (21, 44), (20, 44), (20, 44), (20, 5), (20, 4)] := x12
  obtain ⟨n13, x13⟩ := ex_R (k := 2) (x := c + 6) (j := 0) (q := 1) y12 hc rfl
  obtain ⟨g13, hg13⟩ : ∃ g, g = hR g12 (c + 0) 2 (some (c + 6)) := ⟨_, rfl⟩
  rw [← hg13] at n13 x13
  have y13 : EXt h g13 [(1, 19), (7, 4), (21, 44), (20, 44), (20, 44), (20, 5), (20, 4)] := x13
  have r13 : ∀ y k, ¬ (y = c + 0 ∧ k = 2) → g13.2.2.2 y k = g12.2.2.2 y k := fun y k hyk => by rw [hg13, rR_hR, if_neg hyk]
  have s13 : g13.2.2.2 (c + 0) 2 = some (c + 6) := by rw [hg13, rR_hR, if_pos ⟨rfl, rfl⟩]
  obtain ⟨n14, x14, r14⟩ := ex_N y13 hc (l := 7) rfl (a := 20) (n := 24)
  obtain ⟨g14, hg14⟩ : ∃ g, g = hN g13 20 24 := ⟨_, rfl⟩
  rw [← hg14] at n14 x14 r14
  have y14 : EXt h g14 [(1, 19), (7, 4), (21, 44), (20, 44), (20, 44), (20, 5), (20, 4), (20, 24)] := x14
  obtain ⟨n15, x15⟩ := ex_R (k := 3) (x := c + 7) (j := 0) (q := 1) y14 hc rfl
  obtain ⟨g15, hg15⟩ : ∃ g, g = hR g14 (c + 0) 3 (some (c + 7)) := ⟨_, rfl⟩
  rw [← hg15] at n15 x15
  have y15 : EXt h g15 [(1, 19), (7, 4), (21, 44), (20, 44), (20, 44), (20, 5), (20, 4), (20, 24)] := x15
  have r15 : ∀ y k, ¬ (y = c + 0 ∧ k = 3) → g15.2.2.2 y k = g14.2.2.2 y k := fun y k hyk => by rw [hg15, rR_hR, if_neg hyk]
  have s15 : g15.2.2.2 (c + 0) 3 = some (c + 7) := by rw [hg15, rR_hR, if_pos ⟨rfl, rfl⟩]
  obtain ⟨n16, x16, r16⟩ := ex_N y15 hc (l := 8) rfl (a := 20) (n := 24)
  obtain ⟨g16, hg16⟩ : ∃ g, g = hN g15 20 24 := ⟨_, rfl⟩
  rw [← hg16] at n16 x16 r16
  have y16 : EXt h g16 [(1, 19), (7, 4), (21, 44), (20, 44), (20, 44), (20, 5), (20, 4), (20, 24), (20, 24)] := x16
  obtain ⟨n17, x17⟩ := ex_R (k := 4) (x := c + 8) (j := 0) (q := 1) y16 hc rfl
  obtain ⟨g17, hg17⟩ : ∃ g, g = hR g16 (c + 0) 4 (some (c + 8)) := ⟨_, rfl⟩
  rw [← hg17] at n17 x17
  have y17 : EXt h g17 [(1, 19), (7, 4), (21, 44), (20, 44), (20, 44), (20, 5), (20, 4), (20, 24), (20, 24)] := x17
  have r17 : ∀ y k, ¬ (y = c + 0 ∧ k = 4) → g17.2.2.2 y k = g16.2.2.2 y k := fun y k hyk => by rw [hg17, rR_hR, if_neg hyk]
  have s17 : g17.2.2.2 (c + 0) 4 = some (c + 8) := by rw [hg17, rR_hR, if_pos ⟨rfl, rfl⟩]
  obtain ⟨n18, x18, r18⟩ := ex_N y17 hc (l := 9) rfl (a := 20) (n := 256)
  obtain ⟨g18, hg18⟩ : ∃ g, g = hN g17 20 256 := ⟨_, rfl⟩
  rw [← hg18] at n18 x18 r18
  have y18 : EXt h g18 [(1, 19), (7, 4), (21, 44), (20, 44), (20, 44), (20, 5), (20, 4), (20, 24), (20, 24), (20, 256)] := x18
  obtain ⟨n19, x19⟩ := ex_R (k := 5) (x := c + 9) (j := 0) (q := 1) y18 hc rfl
  obtain ⟨g19, hg19⟩ : ∃ g, g = hR g18 (c + 0) 5 (some (c + 9)) := ⟨_, rfl⟩
  rw [← hg19] at n19 x19
  have y19 : EXt h g19 [(1, 19), (7, 4), (21, 44), (20, 44), (20, 44), (20, 5), (20, 4), (20, 24), (20, 24), (20, 256)] := x19
  have r19 : ∀ y k, ¬ (y = c + 0 ∧ k = 5) → g19.2.2.2 y k = g18.2.2.2 y k := fun y k hyk => by rw [hg19, rR_hR, if_neg hyk]
  have s19 : g19.2.2.2 (c + 0) 5 = some (c + 9) := by rw [hg19, rR_hR, if_pos ⟨rfl, rfl⟩]
  obtain ⟨n20, x20, r20⟩ := ex_N y19 hc (l := 10) rfl (a := 20) (n := 256)
  obtain ⟨g20, hg20⟩ : ∃ g, g = hN g19 20 256 := ⟨_, rfl⟩
  rw [← hg20] at n20 x20 r20
  have y20 : EXt h g20 [(1, 19), (7, 4), (21, 44), (20, 44), (20, 44), (20, 5), (20, 4), (20, 24), (20, 24), (20, 256), (20, 256)] := x20
  obtain ⟨n21, x21⟩ := ex_R (k := 6) (x := c + 10) (j := 0) (q := 1) y20 hc rfl
  obtain ⟨g21, hg21⟩ : ∃ g, g = hR g20 (c + 0) 6 (some (c + 10)) := ⟨_, rfl⟩
  rw [← hg21] at n21 x21
  have y21 : EXt h g21 [(1, 19), (7, 4), (21, 44), (20, 44), (20, 44), (20, 5), (20, 4), (20, 24), (20, 24), (20, 256), (20, 256)] := x21
  have r21 : ∀ y k, ¬ (y = c + 0 ∧ k = 6) → g21.2.2.2 y k = g20.2.2.2 y k := fun y k hyk => by rw [hg21, rR_hR, if_neg hyk]
  have s21 : g21.2.2.2 (c + 0) 6 = some (c + 10) := by rw [hg21, rR_hR, if_pos ⟨rfl, rfl⟩]
  obtain ⟨n22, x22, r22⟩ := ex_N y21 hc (l := 11) rfl (a := 20) (n := 12)
  obtain ⟨g22, hg22⟩ : ∃ g, g = hN g21 20 12 := ⟨_, rfl⟩
  rw [← hg22] at n22 x22 r22
  have y22 : EXt h g22 [(1, 19), (7, 4), (21, 44), (20, 44), (20, 44), (20, 5), (20, 4), (20, 24), (20, 24), (20, 256), (20, 256), (20, 12)] := x22
  obtain ⟨n23, x23⟩ := ex_R (k := 7) (x := c + 11) (j := 0) (q := 1) y22 hc rfl
  obtain ⟨g23, hg23⟩ : ∃ g, g = hR g22 (c + 0) 7 (some (c + 11)) := ⟨_, rfl⟩
  rw [← hg23] at n23 x23
  have y23 : EXt h g23 [(1, 19), (7, 4), (21, 44), (20, 44), (20, 44), (20, 5), (20, 4), (20, 24), (20, 24), (20, 256), (20, 256), (20, 12)] := x23
  have r23 : ∀ y k, ¬ (y = c + 0 ∧ k = 7) → g23.2.2.2 y k = g22.2.2.2 y k := fun y k hyk => by rw [hg23, rR_hR, if_neg hyk]
  have s23 : g23.2.2.2 (c + 0) 7 = some (c + 11) := by rw [hg23, rR_hR, if_pos ⟨rfl, rfl⟩]
  obtain ⟨n24, x24, r24⟩ := ex_N y23 hc (l := 12) rfl (a := 20) (n := 16)
  obtain ⟨g24, hg24⟩ : ∃ g, g = hN g23 20 16 := ⟨_, rfl⟩
  rw [← hg24] at n24 x24 r24
  have y24 : EXt h g24 [(1, 19), (7, 4), (21, 44), (20, 44), (20, 44), (20, 5), (20, 4), (20, 24), (20, 24), (20, 256), (20, 256), (20, 12), (20, 16)] := x24
  obtain ⟨n25, x25⟩ := ex_R (k := 8) (x := c + 12) (j := 0) (q := 1) y24 hc rfl
  obtain ⟨g25, hg25⟩ : ∃ g, g = hR g24 (c + 0) 8 (some (c + 12)) := ⟨_, rfl⟩
  rw [← hg25] at n25 x25
  have y25 : EXt h g25 [(1, 19), (7, 4), (21, 44), (20, 44), (20, 44), (20, 5), (20, 4), (20, 24), (20, 24), (20, 256), (20, 256), (20, 12), (20, 16)] := x25
  have r25 : ∀ y k, ¬ (y = c + 0 ∧ k = 8) → g25.2.2.2 y k = g24.2.2.2 y k := fun y k hyk => by rw [hg25, rR_hR, if_neg hyk]
  have s25 : g25.2.2.2 (c + 0) 8 = some (c + 12) := by rw [hg25, rR_hR, if_pos ⟨rfl, rfl⟩]
  obtain ⟨n26, x26, r26⟩ := ex_N y25 hc (l := 13) rfl (a := 20) (n := 4)
  obtain ⟨g26, hg26⟩ : ∃ g, g = hN g25 20 4 := ⟨_, rfl⟩
  rw [← hg26] at n26 x26 r26
  have y26 : EXt h g26 [(1, 19), (7, 4), (21, 44), (20, 44), (20, 44), (20, 5), (20, 4), (20, 24), (20, 24), (20, 256), (20, 256), (20, 12), (20, 16), (20, 4)] := x26
  obtain ⟨n27, x27⟩ := ex_R (k := 9) (x := c + 13) (j := 0) (q := 1) y26 hc rfl
  obtain ⟨g27, hg27⟩ : ∃ g, g = hR g26 (c + 0) 9 (some (c + 13)) := ⟨_, rfl⟩
  rw [← hg27] at n27 x27
  have y27 : EXt h g27 [(1, 19), (7, 4), (21, 44), (20, 44), (20, 44), (20, 5), (20, 4), (20, 24), (20, 24), (20, 256), (20, 256), (20, 12), (20, 16), (20, 4)] := x27
  have r27 : ∀ y k, ¬ (y = c + 0 ∧ k = 9) → g27.2.2.2 y k = g26.2.2.2 y k := fun y k hyk => by rw [hg27, rR_hR, if_neg hyk]
  have s27 : g27.2.2.2 (c + 0) 9 = some (c + 13) := by rw [hg27, rR_hR, if_pos ⟨rfl, rfl⟩]
  obtain ⟨n28, x28, r28⟩ := ex_N y27 hc (l := 14) rfl (a := 20) (n := 4)
  obtain ⟨g28, hg28⟩ : ∃ g, g = hN g27 20 4 := ⟨_, rfl⟩
  rw [← hg28] at n28 x28 r28
  have y28 : EXt h g28 [(1, 19), (7, 4), (21, 44), (20, 44), (20, 44), (20, 5), (20, 4), (20, 24), (20, 24), (20, 256), (20, 256), (20, 12), (20, 16), (20, 4), (20, 4)] := x28
  obtain ⟨n29, x29⟩ := ex_R (k := 10) (x := c + 14) (j := 0) (q := 1) y28 hc rfl
  obtain ⟨g29, hg29⟩ : ∃ g, g = hR g28 (c + 0) 10 (some (c + 14)) := ⟨_, rfl⟩
  rw [← hg29] at n29 x29
  have y29 : EXt h g29 [(1, 19), (7, 4), (21, 44), (20, 44), (20, 44), (20, 5), (20, 4), (20, 24), (20, 24), (20, 256), (20, 256), (20, 12), (20, 16), (20, 4), (20, 4)] := x29
  have r29 : ∀ y k, ¬ (y = c + 0 ∧ k = 10) → g29.2.2.2 y k = g28.2.2.2 y k := fun y k hyk => by rw [hg29, rR_hR, if_neg hyk]
  have s29 : g29.2.2.2 (c + 0) 10 = some (c + 14) := by rw [hg29, rR_hR, if_pos ⟨rfl, rfl⟩]
  obtain ⟨n30, x30, r30⟩ := ex_N y29 hc (l := 15) rfl (a := 20) (n := 12288)
  obtain ⟨g30, hg30⟩ : ∃ g, g = hN g29 20 12288 := ⟨_, rfl⟩
  rw [← hg30] at n30 x30 r30
  have y30 : EXt h g30 [(1, 19), (7, 4), (21, 44), (20, 44), (20, 44), (20, 5), (20, 4), (20, 24), (20, 24), (20, 256), (20, 256), (20, 12), (20, 16), (20, 4), (20, 4), (20, 12288)] := x30
  obtain ⟨n31, x31⟩ := ex_R (k := 11) (x := c + 15) (j := 0) (q := 1) y30 hc rfl
  obtain ⟨g31, hg31⟩ : ∃ g, g = hR g30 (c + 0) 11 (some (c + 15)) := ⟨_, rfl⟩
  rw [← hg31] at n31 x31
  have y31 : EXt h g31 [(1, 19), (7, 4), (21, 44), (20, 44), (20, 44), (20, 5), (20, 4), (20, 24), (20, 24), (20, 256), (20, 256), (20, 12), (20, 16), (20, 4), (20, 4), (20, 12288)] := x31
  have r31 : ∀ y k, ¬ (y = c + 0 ∧ k = 11) → g31.2.2.2 y k = g30.2.2.2 y k := fun y k hyk => by rw [hg31, rR_hR, if_neg hyk]
  have s31 : g31.2.2.2 (c + 0) 11 = some (c + 15) := by rw [hg31, rR_hR, if_pos ⟨rfl, rfl⟩]
  have z3 : g31.2.2.2 (c + 1) 0 = some (c + 2) := by
    rw [r31 _ _ (by omega), r30 _ _ (by omega), r29 _ _ (by omega), r28 _ _ (by omega), r27 _ _ (by omega), r26 _ _ (by omega), r25 _ _ (by omega), r24 _ _ (by omega), r23 _ _ (by omega), r22 _ _ (by omega), r21 _ _ (by omega), r20 _ _ (by omega), r19 _ _ (by omega), r18 _ _ (by omega), r17 _ _ (by omega), r16 _ _ (by omega), r15 _ _ (by omega), r14 _ _ (by omega), r13 _ _ (by omega), r12 _ _ (by omega), r11 _ _ (by omega), r10 _ _ (by omega), r9 _ _ (by omega), r8, r7 _ _ (by omega), r6 _ _ (by omega), r5 _ _ (by omega), r4 _ _ (by omega), s3]
  have z5 : g31.2.2.2 (c + 1) 1 = some (c + 3) := by
    rw [r31 _ _ (by omega), r30 _ _ (by omega), r29 _ _ (by omega), r28 _ _ (by omega), r27 _ _ (by omega), r26 _ _ (by omega), r25 _ _ (by omega), r24 _ _ (by omega), r23 _ _ (by omega), r22 _ _ (by omega), r21 _ _ (by omega), r20 _ _ (by omega), r19 _ _ (by omega), r18 _ _ (by omega), r17 _ _ (by omega), r16 _ _ (by omega), r15 _ _ (by omega), r14 _ _ (by omega), r13 _ _ (by omega), r12 _ _ (by omega), r11 _ _ (by omega), r10 _ _ (by omega), r9 _ _ (by omega), r8, r7 _ _ (by omega), r6 _ _ (by omega), s5]
  have z7 : g31.2.2.2 (c + 1) 2 = some (c + 4) := by
    rw [r31 _ _ (by omega), r30 _ _ (by omega), r29 _ _ (by omega), r28 _ _ (by omega), r27 _ _ (by omega), r26 _ _ (by omega), r25 _ _ (by omega), r24 _ _ (by omega), r23 _ _ (by omega), r22 _ _ (by omega), r21 _ _ (by omega), r20 _ _ (by omega), r19 _ _ (by omega), r18 _ _ (by omega), r17 _ _ (by omega), r16 _ _ (by omega), r15 _ _ (by omega), r14 _ _ (by omega), r13 _ _ (by omega), r12 _ _ (by omega), r11 _ _ (by omega), r10 _ _ (by omega), r9 _ _ (by omega), r8, s7]
  have z9 : g31.2.2.2 (c + 0) 0 = some (c + 1) := by
    rw [r31 _ _ (by omega), r30 _ _ (by omega), r29 _ _ (by omega), r28 _ _ (by omega), r27 _ _ (by omega), r26 _ _ (by omega), r25 _ _ (by omega), r24 _ _ (by omega), r23 _ _ (by omega), r22 _ _ (by omega), r21 _ _ (by omega), r20 _ _ (by omega), r19 _ _ (by omega), r18 _ _ (by omega), r17 _ _ (by omega), r16 _ _ (by omega), r15 _ _ (by omega), r14 _ _ (by omega), r13 _ _ (by omega), r12 _ _ (by omega), r11 _ _ (by omega), r10 _ _ (by omega), s9]
  have z11 : g31.2.2.2 (c + 0) 1 = some (c + 5) := by
    rw [r31 _ _ (by omega), r30 _ _ (by omega), r29 _ _ (by omega), r28 _ _ (by omega), r27 _ _ (by omega), r26 _ _ (by omega), r25 _ _ (by omega), r24 _ _ (by omega), r23 _ _ (by omega), r22 _ _ (by omega), r21 _ _ (by omega), r20 _ _ (by omega), r19 _ _ (by omega), r18 _ _ (by omega), r17 _ _ (by omega), r16 _ _ (by omega), r15 _ _ (by omega), r14 _ _ (by omega), r13 _ _ (by omega), r12 _ _ (by omega), s11]
  have z13 : g31.2.2.2 (c + 0) 2 = some (c + 6) := by
    rw [r31 _ _ (by omega), r30 _ _ (by omega), r29 _ _ (by omega), r28 _ _ (by omega), r27 _ _ (by omega), r26 _ _ (by omega), r25 _ _ (by omega), r24 _ _ (by omega), r23 _ _ (by omega), r22 _ _ (by omega), r21 _ _ (by omega), r20 _ _ (by omega), r19 _ _ (by omega), r18 _ _ (by omega), r17 _ _ (by omega), r16 _ _ (by omega), r15 _ _ (by omega), r14 _ _ (by omega), s13]
  have z15 : g31.2.2.2 (c + 0) 3 = some (c + 7) := by
    rw [r31 _ _ (by omega), r30 _ _ (by omega), r29 _ _ (by omega), r28 _ _ (by omega), r27 _ _ (by omega), r26 _ _ (by omega), r25 _ _ (by omega), r24 _ _ (by omega), r23 _ _ (by omega), r22 _ _ (by omega), r21 _ _ (by omega), r20 _ _ (by omega), r19 _ _ (by omega), r18 _ _ (by omega), r17 _ _ (by omega), r16 _ _ (by omega), s15]
  have z17 : g31.2.2.2 (c + 0) 4 = some (c + 8) := by
    rw [r31 _ _ (by omega), r30 _ _ (by omega), r29 _ _ (by omega), r28 _ _ (by omega), r27 _ _ (by omega), r26 _ _ (by omega), r25 _ _ (by omega), r24 _ _ (by omega), r23 _ _ (by omega), r22 _ _ (by omega), r21 _ _ (by omega), r20 _ _ (by omega), r19 _ _ (by omega), r18 _ _ (by omega), s17]
  have z19 : g31.2.2.2 (c + 0) 5 = some (c + 9) := by
    rw [r31 _ _ (by omega), r30 _ _ (by omega), r29 _ _ (by omega), r28 _ _ (by omega), r27 _ _ (by omega), r26 _ _ (by omega), r25 _ _ (by omega), r24 _ _ (by omega), r23 _ _ (by omega), r22 _ _ (by omega), r21 _ _ (by omega), r20 _ _ (by omega), s19]
  have z21 : g31.2.2.2 (c + 0) 6 = some (c + 10) := by
    rw [r31 _ _ (by omega), r30 _ _ (by omega), r29 _ _ (by omega), r28 _ _ (by omega), r27 _ _ (by omega), r26 _ _ (by omega), r25 _ _ (by omega), r24 _ _ (by omega), r23 _ _ (by omega), r22 _ _ (by omega), s21]
  have z23 : g31.2.2.2 (c + 0) 7 = some (c + 11) := by
    rw [r31 _ _ (by omega), r30 _ _ (by omega), r29 _ _ (by omega), r28 _ _ (by omega), r27 _ _ (by omega), r26 _ _ (by omega), r25 _ _ (by omega), r24 _ _ (by omega), s23]
  have z25 : g31.2.2.2 (c + 0) 8 = some (c + 12) := by
    rw [r31 _ _ (by omega), r30 _ _ (by omega), r29 _ _ (by omega), r28 _ _ (by omega), r27 _ _ (by omega), r26 _ _ (by omega), s25]
  have z27 : g31.2.2.2 (c + 0) 9 = some (c + 13) := by
    rw [r31 _ _ (by omega), r30 _ _ (by omega), r29 _ _ (by omega), r28 _ _ (by omega), s27]
  have z29 : g31.2.2.2 (c + 0) 10 = some (c + 14) := by
    rw [r31 _ _ (by omega), r30 _ _ (by omega), s29]
  have z31 : g31.2.2.2 (c + 0) 11 = some (c + 15) := by
    rw [s31]
  have i7 : f_X7_init g1 (c + 1) = some g8 := by
    unfold f_X7_init
    rw [n2, bd2_some, n3, Option.bind_some, n4, bd2_some, n5, Option.bind_some, n6, bd2_some, n7, Option.bind_some]
    have n8' : pI g7 7 (c + 1) 3 (0 : Int32) = some g8 := n8
    rw [n8', Option.bind_some]
  rw [Nat.add_zero] at n9 n11 n13 n15 n17 n19 n21 n23 n25 n27 n29 n31
  refine ⟨g31, ?_, ?_, ?_⟩
  · unfold f_X1_init
    rw [n1, bd2_some, i7, Option.bind_some, n9, Option.bind_some, n10, bd2_some, n11, Option.bind_some, n12, bd2_some, n13, Option.bind_some, n14, bd2_some, n15, Option.bind_some, n16, bd2_some, n17, Option.bind_some, n18, bd2_some, n19, Option.bind_some, n20, bd2_some, n21, Option.bind_some, n22, bd2_some, n23, Option.bind_some, n24, bd2_some, n25, Option.bind_some, n26, bd2_some, n27, Option.bind_some, n28, bd2_some, n29, Option.bind_some, n30, bd2_some, n31, Option.bind_some]
  · have e : (SH0.drop 26).take 16 = [(1, 19), (7, 4), (21, 44), (20, 44), (20, 44), (20, 5), (20, 4), (20, 24), (20, 24), (20, 256), (20, 256), (20, 12), (20, 16), (20, 4), (20, 4), (20, 12288)] := by decide +kernel
    rw [e]
    exact y31
  · refine ⟨Or.inr c136, fun j hj => ?_, ?_, fun k k1 k2 => ?_, ?_, ?_, ?_⟩
    · rw [y31.1, ← hc, List.getD_eq_getElem?_getD, List.getElem?_append_right (Nat.le_add_right _ _), Nat.add_sub_cancel_left]
      have e : ∀ j, j < 16 → (([(1, 19), (7, 4), (21, 44), (20, 44), (20, 44), (20, 5), (20, 4), (20, 24), (20, 24), (20, 256), (20, 256), (20, 12), (20, 16), (20, 4), (20, 4), (20, 12288)] : List (Nat × Nat))[j]?).getD (99, 0) = SH0.getD (26 + j) (99, 0) := by decide +kernel
      exact e j hj
    · exact z9
    · have q : k = 1 ∨ k = 2 ∨ k = 3 ∨ k = 4 ∨ k = 5 ∨ k = 6 ∨ k = 7 ∨ k = 8 ∨ k = 9 ∨ k = 10 ∨ k = 11 := by omega
      rcases q with rfl | rfl | rfl | rfl | rfl | rfl | rfl | rfl | rfl | rfl | rfl
      · exact z11
      · exact z13
      · exact z15
      · exact z17
      · exact z19
      · exact z21
      · exact z23
      · exact z25
      · exact z27
      · exact z29
      · exact z31
    · exact z3
    · exact z5
    · exact z7
theorem ex_lay {h g : aH} {L : List (Nat × Nat)} (e : EXt h g L) (hl : LAY h) : LAY g := by
  obtain ⟨⟨ext, e1⟩, e2⟩ := hl
  have ln : 136 ≤ h.1.length := by rw [e1, List.length_append, SH0_len]; omega
  refine ⟨⟨ext ++ L, by rw [e.1, e1, List.append_assoc]⟩, fun q hq => ?_⟩
  have q1 : ∀ q ∈ RT0, q.1 < 136 := by decide +kernel
  rw [(e.2 q.1 (by have := q1 q hq; omega)).2.2]
  exact e2 q hq
theorem cs_len {h : aH} {c : Nat} (hs : CS h c) : c + 15 < h.1.length := by
  rcases Nat.lt_or_ge (c + 15) h.1.length with u | u
  · exact u
  · have e := hs.2.1 15 (by decide)
    rw [List.getD_eq_getElem?_getD, List.getElem?_eq_none u] at e
    exact absurd e (by decide +kernel)
theorem ex_cs {h g : aH} {L : List (Nat × Nat)} (e : EXt h g L) {c : Nat} (hs : CS h c) : CS g c := by
  have ln := cs_len hs
  obtain ⟨h1, h2, h3, h4, h5, h6, h7⟩ := hs
  refine ⟨h1, fun j hj => ?_, ?_, fun k k1 k2 => ?_, ?_, ?_, ?_⟩
  · rw [e.1, List.getD_eq_getElem?_getD, List.getElem?_append_left (by omega), ← List.getD_eq_getElem?_getD]
    exact h2 j hj
  · rw [(e.2 c (by omega)).2.2]; exact h3
  · rw [(e.2 c (by omega)).2.2]; exact h4 k k1 k2
  · rw [(e.2 (c + 1) (by omega)).2.2]; exact h5
  · rw [(e.2 (c + 1) (by omega)).2.2]; exact h6
  · rw [(e.2 (c + 1) (by omega)).2.2]; exact h7
theorem ex_kc {h g : aH} {L : List (Nat × Nat)} (e : EXt h g L) {c : Nat} (hs : CS h c) : KC h g c := by
  have ln := cs_len hs
  exact ⟨fun j hj => (e.2 (c + j) (by omega)).1, (e.2 (c + 2) (by omega)).2.1, fun s => ex_cs e s⟩
/-- a heap with cells more holds all that the old one held -/
theorem inv_ext {h g : aH} {L : List (Nat × Nat)} (e : EXt h g L) (l16 : L.length % 16 = 0) (iv : Inv h) : Inv g := by
  obtain ⟨i1, ⟨b, p, i2⟩, i3, i4, i5, i6, i7, i8, i9, i10, i11, i12⟩ := iv
  have ln : 136 ≤ h.1.length := by
    obtain ⟨⟨ext, e1⟩, -⟩ := i1
    rw [e1, List.length_append, SH0_len]
    omega
  have eI : ∀ y, y < 136 → g.2.1 y = h.2.1 y := fun y hy => (e.2 y (by omega)).1
  have eJ : ∀ y, y < 136 → g.2.2.1 y = h.2.2.1 y := fun y hy => (e.2 y (by omega)).2.1
  have eR : ∀ y, y < 136 → g.2.2.2 y = h.2.2.2 y := fun y hy => (e.2 y (by omega)).2.2
  have ks : ∀ s, KS h g s s := fun s => ⟨fun _ _ => by rw [eI 114 (by decide)], fun _ _ => by rw [eJ 115 (by decide)], fun _ _ => by rw [eJ 116 (by decide)]⟩
  have pl := i2.2.2.2.2.2.2.2.1
  have p10 := i2.2.2.2.2.2.2.2.2.2.1
  refine ⟨ex_lay e i1, ⟨b, p, pb_k (ex_kc e i2.2.2.1.1) (ks 0) (fun y _ hy => eI y (by omega)) (eI 126 (by decide)) (by rw [eR 0 (by decide)]) (by rw [eR 52 (by decide)]) ?_ p10 ?_ ?_ i2⟩, mks_k ⟨fun i hi => by rw [eR _ (by omega)], fun y _ hy => eI y (by omega), fun s _ _ => ks s, by rw [eI 0 (by decide)], by rw [eI 113 (by decide)]⟩ (fun i b mb => ex_kc e mb.2.1.1) i3, ?_, ?_, ?_, ?_, ?_, ?_, ?_, ?_, ?_⟩
  · refine plo_k (kp_same (fun j hj => eI _ (by omega))) ?_ (fun x _ _ => ?_) pl
    · rw [eI 114 (by decide)]
    · rw [eI 114 (by decide)]
  · rw [eR 0 (by decide)]
    exact i2.2.2.2.2.2.2.2.2.2.2.1
  · rw [eR 0 (by decide)]
    exact i2.2.2.2.2.2.2.2.2.2.2.2
  · refine ⟨?_, fun i hi c hc => ?_⟩
    · rw [e.1, List.length_append]
      have := i4.1
      omega
    · rw [eR 11 (by decide)] at hc
      obtain ⟨y1, y2⟩ := i4.2 i hi c hc
      exact ⟨ex_cs e y1, y2⟩
  · unfold TR
    rw [eI 1 (by decide), eI 2 (by decide), eJ 3 (by decide), eI 117 (by decide), eI 118 (by decide), eJ 119 (by decide)]
    exact i5
  · unfold ST
    rw [eI 0 (by decide), eI 113 (by decide)]
    exact i6
  · unfold FQ
    rw [eJ 0 (by decide), eJ 113 (by decide)]
    exact i7
  · unfold FP
    rw [eI 0 (by decide), eI 113 (by decide)]
    exact i8
  · unfold SA
    rw [eI 0 (by decide), eI 113 (by decide), eI 13 (by decide), eI 135 (by decide)]
    exact i9
  · unfold TP
    rw [eI 4 (by decide), eI 113 (by decide), eI 5 (by decide), eI 120 (by decide)]
    exact i10
  · unfold FA
    rw [eI 4 (by decide), eI 113 (by decide)]
    exact i11
  · intro k hk
    rw [eJ 6 (by decide)]
    exact i12 k hk
