/-! ===== the layout behind the constructors ===== -/
def SH0 : List (Nat × Nat) := [(11, 20), (20, 4), (20, 4), (21, 240), (4, 14), (22, 900), (21, 27), (20, 901), (20, 901), (20, 901), (21, 901), (24, 5), (25, 3), (20, 6), (8, 8), (20, 30), (20, 30), (20, 30), (20, 30), (20, 3), (8, 8), (20, 30), (20, 30), (20, 30), (20, 30), (20, 3), (1, 19), (7, 4), (21, 44), (20, 44), (20, 44), (20, 5), (20, 4), (20, 24), (20, 24), (20, 256), (20, 256), (20, 12), (20, 16), (20, 4), (20, 4), (20, 12288), (2, 8), (0, 5), (20, 256), (20, 256), (20, 12), (20, 12), (20, 24), (21, 96), (21, 4), (21, 84), (3, 7), (6, 6), (20, 12), (20, 12), (20, 12), (20, 12), (20, 256), (20, 256), (20, 24), (9, 9), (20, 768), (20, 768), (20, 3), (20, 3072), (10, 4), (20, 4), (3, 7), (6, 6), (20, 12), (20, 12), (20, 12), (20, 12), (20, 256), (20, 256), (20, 24), (5, 3), (8, 8), (20, 30), (20, 30), (20, 30), (20, 30), (20, 3), (6, 6), (20, 12), (20, 12), (20, 12), (20, 12), (5, 3), (8, 8), (20, 30), (20, 30), (20, 30), (20, 30), (20, 3), (6, 6), (20, 12), (20, 12), (20, 12), (20, 12), (5, 3), (8, 8), (20, 30), (20, 30), (20, 30), (20, 30), (20, 3), (6, 6), (20, 12), (20, 12), (20, 12), (20, 12), (12, 48), (20, 2000), (21, 260), (21, 220), (20, 4), (20, 4), (21, 240), (22, 900), (22, 900), (20, 24), (21, 240), (20, 100), (20, 3), (20, 49152), (21, 4), (21, 4), (20, 4096), (23, 48), (20, 3072), (20, 4), (20, 48), (20, 6), (20, 6)]
def kT (a : Nat) : Nat := (SH0.getD a (99, 0)).1
def lT (a : Nat) : Nat := (SH0.getD a (99, 0)).2
def RT0 : List (Nat × Nat × Nat) := [(0, 0, 1), (0, 1, 2), (0, 2, 3), (0, 3, 4), (0, 4, 11), (0, 5, 42), (0, 6, 52), (0, 7, 61), (0, 8, 66), (0, 9, 12), (0, 10, 13), (4, 0, 5), (4, 1, 6), (4, 2, 7), (4, 3, 8), (4, 4, 9), (4, 5, 10), (14, 0, 15), (14, 1, 16), (14, 2, 17), (14, 3, 18), (14, 4, 19), (20, 0, 21), (20, 1, 22), (20, 2, 23), (20, 3, 24), (20, 4, 25), (26, 0, 27), (26, 1, 31), (26, 2, 32), (26, 3, 33), (26, 4, 34), (26, 5, 35), (26, 6, 36), (26, 7, 37), (26, 8, 38), (26, 9, 39), (26, 10, 40), (26, 11, 41), (27, 0, 28), (27, 1, 29), (27, 2, 30), (42, 0, 4), (42, 1, 43), (42, 2, 48), (42, 3, 49), (42, 4, 50), (42, 5, 51), (43, 0, 44), (43, 1, 45), (43, 2, 46), (43, 3, 47), (52, 0, 53), (52, 1, 58), (52, 2, 59), (52, 3, 60), (53, 0, 54), (53, 1, 55), (53, 2, 56), (53, 3, 57), (61, 0, 52), (61, 1, 62), (61, 2, 63), (61, 3, 64), (61, 4, 65), (66, 0, 68), (66, 1, 67), (68, 0, 69), (68, 1, 74), (68, 2, 75), (68, 3, 76), (69, 0, 70), (69, 1, 71), (69, 2, 72), (69, 3, 73), (77, 0, 78), (77, 1, 84), (78, 0, 79), (78, 1, 80), (78, 2, 81), (78, 3, 82), (78, 4, 83), (84, 0, 85), (84, 1, 86), (84, 2, 87), (84, 3, 88), (89, 0, 90), (89, 1, 96), (90, 0, 91), (90, 1, 92), (90, 2, 93), (90, 3, 94), (90, 4, 95), (96, 0, 97), (96, 1, 98), (96, 2, 99), (96, 3, 100), (101, 0, 102), (101, 1, 108), (102, 0, 103), (102, 1, 104), (102, 2, 105), (102, 3, 106), (102, 4, 107), (108, 0, 109), (108, 1, 110), (108, 2, 111), (108, 3, 112), (113, 0, 114), (113, 1, 115), (113, 2, 116), (113, 6, 117), (113, 7, 118), (113, 8, 119), (113, 9, 120), (113, 10, 121), (113, 22, 122), (113, 23, 123), (113, 24, 124), (113, 28, 125), (113, 31, 126), (113, 32, 127), (113, 33, 128), (113, 34, 129), (113, 35, 130), (113, 36, 131), (113, 42, 132), (113, 43, 133), (113, 44, 134), (113, 46, 135), (12, 0, 77), (12, 1, 89), (12, 2, 101)]
def rT (a k : Nat) : Option Nat := (RT0.find? (fun q => q.1 == a && q.2.1 == k)).map (fun q => q.2.2)
/-- shapes and fixed references; of the heap's parts only these two are looked at, so int and long stores keep it as it is -/
theorem SH0_len : SH0.length = 136 := by decide +kernel
def LAYp (sh : List (Nat × Nat)) (mr : Nat → Nat → Option Nat) : Prop := (∃ ext, sh = SH0 ++ ext) ∧ ∀ q ∈ RT0, mr q.1 q.2.1 = some q.2.2
def LAY (h : aH) : Prop := LAYp h.1 h.2.2.2
theorem lay_sh {h : aH} (hl : LAY h) {a : Nat} (ha : kT a ≠ 99) : h.1.getD a (99, 0) = SH0.getD a (99, 0) := by
  obtain ⟨⟨ext, e⟩, -⟩ := hl
  have hlt : a < SH0.length := by
    rcases Nat.lt_or_ge a SH0.length with q | q
    · exact q
    · refine absurd ?_ ha
      unfold kT
      rw [List.getD_eq_getElem?_getD, List.getElem?_eq_none q]
      rfl
  rw [e, List.getD_eq_getElem?_getD, List.getD_eq_getElem?_getD, List.getElem?_append_left hlt]
theorem lay_kd {h : aH} (hl : LAY h) (a : Nat) (hc : kT a ≠ 99) : kd h a = kT a := by
  unfold kd
  rw [lay_sh hl hc]
  rfl
theorem lay_ln {h : aH} (hl : LAY h) (a : Nat) (hc : kT a ≠ 99) : ln h a = lT a := by
  unfold ln
  rw [lay_sh hl hc]
  rfl
theorem rT_mem {a k r : Nat} (h : rT a k = some r) : (a, k, r) ∈ RT0 := by
  unfold rT at h
  cases hf : RT0.find? (fun q => q.1 == a && q.2.1 == k) with
  | none => rw [hf] at h; cases h
  | some q =>
    rw [hf] at h
    have h1 := List.mem_of_find?_eq_some hf
    have h2 := List.find?_some hf
    simp only [Bool.and_eq_true, beq_iff_eq] at h2
    obtain ⟨q1, q2, q3⟩ := q
    cases h
    obtain ⟨rfl, rfl⟩ := h2
    exact h1
/-! reading and writing under the layout: the side conditions are closed by rfl -/
theorem gI_L {h : aH} (hl : LAY h) {c a : Nat} (k : Nat) (hc : kT a = c) (h9 : c ≠ 99) : gI h c a k = some (h.2.1 a k) := by
  unfold gI
  rw [lay_kd hl a (by rw [hc]; exact h9), if_pos hc]
theorem gJ_L {h : aH} (hl : LAY h) {c a : Nat} (k : Nat) (hc : kT a = c) (h9 : c ≠ 99) : gJ h c a k = some (h.2.2.1 a k) := by
  unfold gJ
  rw [lay_kd hl a (by rw [hc]; exact h9), if_pos hc]
theorem gR_D {h : aH} (hl : LAY h) {c a : Nat} (k : Nat) (hc : kT a = c) (h9 : c ≠ 99) : gR h c a k = h.2.2.2 a k := by
  unfold gR
  rw [lay_kd hl a (by rw [hc]; exact h9), if_pos hc]
theorem gR_L {h : aH} (hl : LAY h) {c a k r : Nat} (hc : kT a = c) (h9 : c ≠ 99) (hr : rT a k = some r) : gR h c a k = some r := by
  rw [gR_D hl k hc h9]
  exact hl.2 _ (rT_mem hr)
theorem ck_L {h : aH} (hl : LAY h) {c a : Nat} (hc : kT a = c) (h9 : c ≠ 99) : ck h c a = some () := by
  unfold ck
  rw [lay_kd hl a (by rw [hc]; exact h9), if_pos hc]
theorem pI_L {h : aH} (hl : LAY h) {c a : Nat} (k : Nat) (x : Int32) (hc : kT a = c) (h9 : c ≠ 99) : pI h c a k x = some (hI h a k x) := by
  unfold pI
  rw [lay_kd hl a (by rw [hc]; exact h9), if_pos hc]
theorem pJ_L {h : aH} (hl : LAY h) {c a : Nat} (k : Nat) (x : Int64) (hc : kT a = c) (h9 : c ≠ 99) : pJ h c a k x = some (hJ h a k x) := by
  unfold pJ
  rw [lay_kd hl a (by rw [hc]; exact h9), if_pos hc]
theorem pZ_L {h : aH} (hl : LAY h) {c a : Nat} (k : Nat) (x : Int32) (hc : kT a = c) (h9 : c ≠ 99) (hx : x = 0 ∨ x = 1) : pZ h c a k x = some (hI h a k x) := by
  unfold pZ
  rw [lay_kd hl a (by rw [hc]; exact h9), if_pos ⟨hc, hx⟩]
theorem inb_L {h : aH} (hl : LAY h) {t a j : Nat} (hk : kT a = t) (h9 : t ≠ 99) (hj : j < lT a) (hz : lT a < 2 ^ 31) : inbD h t a (nI j) = true := by
  rw [inb_iff]
  refine ⟨by rw [lay_kd hl a (by rw [hk]; exact h9), hk], nI_pos (by omega), ?_⟩
  rw [nI_clamp (by omega), lay_ln hl a (by rw [hk]; exact h9)]
  exact hj
theorem lT_small : ∀ a, lT a < 2 ^ 31 := by
  intro a
  rcases Nat.lt_or_ge a 136 with q | q
  · exact (by decide +kernel : ∀ a, a < 136 → lT a < 2 ^ 31) a q
  · unfold lT
    rw [List.getD_eq_getElem?_getD, List.getElem?_eq_none (by rw [SH0_len]; exact q)]
    decide
theorem lI_L {h : aH} (hl : LAY h) {a j : Nat} (hk : kT a = 20) (hj : j < lT a) : lI h a (nI j) = some (h.2.1 a j) := by
  unfold lI
  rw [inb_L hl hk (by decide) hj (lT_small a), nI_clamp (Nat.lt_trans hj (lT_small a))]
  rfl
theorem lJ_L {h : aH} (hl : LAY h) {a j : Nat} (hk : kT a = 21) (hj : j < lT a) : lJ h a (nI j) = some (h.2.2.1 a j) := by
  unfold lJ
  rw [inb_L hl hk (by decide) hj (lT_small a), nI_clamp (Nat.lt_trans hj (lT_small a))]
  rfl
theorem lB_L {h : aH} (hl : LAY h) {a j : Nat} (hk : kT a = 22) (hj : j < lT a) : lB h a (nI j) = some (h.2.1 a j) := by
  unfold lB
  rw [inb_L hl hk (by decide) hj (lT_small a), nI_clamp (Nat.lt_trans hj (lT_small a))]
  rfl
theorem lZ_L {h : aH} (hl : LAY h) {a j : Nat} (hk : kT a = 23) (hj : j < lT a) : lZ h a (nI j) = some (h.2.1 a j) := by
  unfold lZ
  rw [inb_L hl hk (by decide) hj (lT_small a), nI_clamp (Nat.lt_trans hj (lT_small a))]
  rfl
theorem sI_L {h : aH} (hl : LAY h) {a j : Nat} (x : Int32) (hk : kT a = 20) (hj : j < lT a) : sI h a (nI j) x = some (hI h a j x) := by
  unfold sI
  rw [inb_L hl hk (by decide) hj (lT_small a), nI_clamp (Nat.lt_trans hj (lT_small a))]
  rfl
theorem sJ_L {h : aH} (hl : LAY h) {a j : Nat} (x : Int64) (hk : kT a = 21) (hj : j < lT a) : sJ h a (nI j) x = some (hJ h a j x) := by
  unfold sJ
  rw [inb_L hl hk (by decide) hj (lT_small a), nI_clamp (Nat.lt_trans hj (lT_small a))]
  rfl
theorem sB_L {h : aH} (hl : LAY h) {a j : Nat} (x : Int32) (hk : kT a = 22) (hj : j < lT a) : sB h a (nI j) x = some (hI h a j (vp_nar .byte x)) := by
  unfold sB
  rw [inb_L hl hk (by decide) hj (lT_small a), nI_clamp (Nat.lt_trans hj (lT_small a))]
  rfl
theorem sZ_L {h : aH} (hl : LAY h) {a j : Nat} (x : Int32) (hk : kT a = 23) (hj : j < lT a) : sZ h a (nI j) x = some (hI h a j (vp_nar .boolean x)) := by
  unfold sZ
  rw [inb_L hl hk (by decide) hj (lT_small a), nI_clamp (Nat.lt_trans hj (lT_small a))]
  rfl
theorem rI_hI {h : aH} {a k i j : Nat} {x : Int32} : (hI h a k x).2.1 i j = if i = a ∧ j = k then x else h.2.1 i j := by
  show up2 h.2.1 a k x i j = _
  unfold up2 va_up
  by_cases h1 : i = a <;> by_cases h2 : j = k <;> simp [h1, h2]
theorem rJ_hJ {h : aH} {a k i j : Nat} {x : Int64} : (hJ h a k x).2.2.1 i j = if i = a ∧ j = k then x else h.2.2.1 i j := by
  show up2 h.2.2.1 a k x i j = _
  unfold up2 va_up
  by_cases h1 : i = a <;> by_cases h2 : j = k <;> simp [h1, h2]
theorem lay_hI {h : aH} {a k : Nat} {x : Int32} (hl : LAY h) : LAY (hI h a k x) := hl
theorem lay_hJ {h : aH} {a k : Nat} {x : Int64} (hl : LAY h) : LAY (hJ h a k x) := hl
/-- a loop that turns n times and then leaves with e -/
theorem forL {S E : Type} {body : S → Option (S ⊕ E)} (st : Nat → S) {e : E} : ∀ (n fuel i : Nat), n < fuel → (∀ j, i ≤ j → j < i + n → body (st j) = some (.inl (st (j + 1)))) → body (st (i + n)) = some (.inr e) → whileL fuel body (st i) = some e
  | 0, fuel + 1, i, _, _, he => by
    show (body (st i)).bind (wlK (whileL fuel body)) = some e
    rw [show body (st i) = some (.inr e) from he]
    rfl
  | n + 1, fuel + 1, i, hn, hb, he => by
    show (body (st i)).bind (wlK (whileL fuel body)) = some e
    rw [hb i (Nat.le_refl i) (by omega)]
    show whileL fuel body (st (i + 1)) = some e
    exact forL st n fuel (i + 1) (by omega) (fun j h1 h2 => hb j (by omega) (by omega)) (by rw [show i + 1 + n = i + (n + 1) by omega]; exact he)
theorem wN_e : wN = 1000000 := rfl

