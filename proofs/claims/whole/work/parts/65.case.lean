/-! ===== the class's Case, at base c ===== -/
def CSp (sh : List (Nat × Nat)) (mr : Nat → Nat → Option Nat) (c : Nat) : Prop := (c = 26 ∨ 136 ≤ c) ∧ (∀ j, j < 16 → sh.getD (c + j) (99, 0) = SH0.getD (26 + j) (99, 0)) ∧ mr c 0 = some (c + 1) ∧ (∀ k, 1 ≤ k → k < 12 → mr c k = some (c + (4 + k))) ∧ mr (c + 1) 0 = some (c + 2) ∧ mr (c + 1) 1 = some (c + 3) ∧ mr (c + 1) 2 = some (c + 4)
/-- a Case lies at c -/
def CS (h : aH) (c : Nat) : Prop := CSp h.1 h.2.2.2 c
theorem cs_kd {h : aH} {c : Nat} (hs : CS h c) (j : Nat) (hj : j < 16) : kd h (c + j) = kT (26 + j) := by
  unfold kd
  rw [hs.2.1 j hj]
  rfl
theorem cs_ln {h : aH} {c : Nat} (hs : CS h c) (j : Nat) (hj : j < 16) : ln h (c + j) = lT (26 + j) := by
  unfold ln
  rw [hs.2.1 j hj]
  rfl
theorem inb_K {h : aH} {t a n j : Nat} (hk : kd h a = t) (hn : ln h a = n) (hj : j < n) (hz : n < 2 ^ 31) : inbD h t a (nI j) = true := by
  rw [inb_iff]
  refine ⟨hk, nI_pos (by omega), ?_⟩
  rw [nI_clamp (by omega), hn]
  exact hj
theorem lI_K {h : aH} {a n j : Nat} (hk : kd h a = 20) (hn : ln h a = n) (hz : n < 2 ^ 31) (hj : j < n) : lI h a (nI j) = some (h.2.1 a j) := by
  unfold lI
  rw [inb_K hk hn hj hz, nI_clamp (by omega)]
  rfl
theorem lJ_K {h : aH} {a n j : Nat} (hk : kd h a = 21) (hn : ln h a = n) (hz : n < 2 ^ 31) (hj : j < n) : lJ h a (nI j) = some (h.2.2.1 a j) := by
  unfold lJ
  rw [inb_K hk hn hj hz, nI_clamp (by omega)]
  rfl
theorem sI_K {h : aH} {a n j : Nat} {x : Int32} (hk : kd h a = 20) (hn : ln h a = n) (hz : n < 2 ^ 31) (hj : j < n) : sI h a (nI j) x = some (hI h a j x) := by
  unfold sI
  rw [inb_K hk hn hj hz, nI_clamp (by omega)]
  rfl
theorem sJ_K {h : aH} {a n j : Nat} {x : Int64} (hk : kd h a = 21) (hn : ln h a = n) (hz : n < 2 ^ 31) (hj : j < n) : sJ h a (nI j) x = some (hJ h a j x) := by
  unfold sJ
  rw [inb_K hk hn hj hz, nI_clamp (by omega)]
  rfl
theorem gI_K {h : aH} {t a k : Nat} (hk : kd h a = t) : gI h t a k = some (h.2.1 a k) := by
  unfold gI
  rw [if_pos hk]
theorem gR_K {h : aH} {t a k : Nat} (hk : kd h a = t) : gR h t a k = h.2.2.2 a k := by
  unfold gR
  rw [if_pos hk]
theorem pI_K {h : aH} {t a k : Nat} {x : Int32} (hk : kd h a = t) : pI h t a k x = some (hI h a k x) := by
  unfold pI
  rw [if_pos hk]
theorem ck_K {h : aH} {t a : Nat} (hk : kd h a = t) : ck h t a = some () := by
  unfold ck
  rw [if_pos hk]
theorem SC : ∀ (h : aH) (c : Nat), CS h c → ck h 1 c = some () ∧ gR h 1 c 0 = some (c + 1) ∧ gR h 1 c 1 = some (c + 5) ∧ gR h 1 c 2 = some (c + 6) ∧ gR h 1 c 3 = some (c + 7) ∧ gR h 1 c 4 = some (c + 8) ∧ gR h 1 c 5 = some (c + 9) ∧ gR h 1 c 6 = some (c + 10) ∧ gR h 1 c 7 = some (c + 11) ∧ gR h 1 c 8 = some (c + 12) ∧ gR h 1 c 9 = some (c + 13) ∧ gR h 1 c 10 = some (c + 14) ∧ gR h 1 c 11 = some (c + 15) ∧ gI h 1 c 12 = some (h.2.1 c 12) ∧ (∀ x, pI h 1 c 12 x = some (hI h c 12 x)) ∧ gI h 1 c 13 = some (h.2.1 c 13) ∧ (∀ x, pI h 1 c 13 x = some (hI h c 13 x)) ∧ gI h 1 c 14 = some (h.2.1 c 14) ∧ (∀ x, pI h 1 c 14 x = some (hI h c 14 x)) ∧ gI h 1 c 15 = some (h.2.1 c 15) ∧ (∀ x, pI h 1 c 15 x = some (hI h c 15 x)) ∧ gI h 1 c 16 = some (h.2.1 c 16) ∧ (∀ x, pI h 1 c 16 x = some (hI h c 16 x)) ∧ gI h 1 c 17 = some (h.2.1 c 17) ∧ (∀ x, pI h 1 c 17 x = some (hI h c 17 x)) ∧ gI h 1 c 18 = some (h.2.1 c 18) ∧ (∀ x, pI h 1 c 18 x = some (hI h c 18 x)) ∧ ck h 7 (c + 1) = some () ∧ gR h 7 (c + 1) 0 = some (c + 2) ∧ gR h 7 (c + 1) 1 = some (c + 3) ∧ gR h 7 (c + 1) 2 = some (c + 4) ∧ gI h 7 (c + 1) 3 = some (h.2.1 (c + 1) 3) ∧ (∀ x, pI h 7 (c + 1) 3 x = some (hI h (c + 1) 3 x)) ∧ (∀ j, j < 44 → lJ h (c + 2) (nI j) = some (h.2.2.1 (c + 2) j)) ∧ (∀ j x, j < 44 → sJ h (c + 2) (nI j) x = some (hJ h (c + 2) j x)) ∧ (∀ j, j < 44 → lI h (c + 3) (nI j) = some (h.2.1 (c + 3) j)) ∧ (∀ j x, j < 44 → sI h (c + 3) (nI j) x = some (hI h (c + 3) j x)) ∧ (∀ j, j < 44 → lI h (c + 4) (nI j) = some (h.2.1 (c + 4) j)) ∧ (∀ j x, j < 44 → sI h (c + 4) (nI j) x = some (hI h (c + 4) j x)) ∧ (∀ j, j < 5 → lI h (c + 5) (nI j) = some (h.2.1 (c + 5) j)) ∧ (∀ j x, j < 5 → sI h (c + 5) (nI j) x = some (hI h (c + 5) j x)) ∧ (∀ j, j < 4 → lI h (c + 6) (nI j) = some (h.2.1 (c + 6) j)) ∧ (∀ j x, j < 4 → sI h (c + 6) (nI j) x = some (hI h (c + 6) j x)) ∧ (∀ j, j < 24 → lI h (c + 7) (nI j) = some (h.2.1 (c + 7) j)) ∧ (∀ j x, j < 24 → sI h (c + 7) (nI j) x = some (hI h (c + 7) j x)) ∧ (∀ j, j < 24 → lI h (c + 8) (nI j) = some (h.2.1 (c + 8) j)) ∧ (∀ j x, j < 24 → sI h (c + 8) (nI j) x = some (hI h (c + 8) j x)) ∧ (∀ j, j < 256 → lI h (c + 9) (nI j) = some (h.2.1 (c + 9) j)) ∧ (∀ j x, j < 256 → sI h (c + 9) (nI j) x = some (hI h (c + 9) j x)) ∧ (∀ j, j < 256 → lI h (c + 10) (nI j) = some (h.2.1 (c + 10) j)) ∧ (∀ j x, j < 256 → sI h (c + 10) (nI j) x = some (hI h (c + 10) j x)) ∧ (∀ j, j < 12 → lI h (c + 11) (nI j) = some (h.2.1 (c + 11) j)) ∧ (∀ j x, j < 12 → sI h (c + 11) (nI j) x = some (hI h (c + 11) j x)) ∧ (∀ j, j < 16 → lI h (c + 12) (nI j) = some (h.2.1 (c + 12) j)) ∧ (∀ j x, j < 16 → sI h (c + 12) (nI j) x = some (hI h (c + 12) j x)) ∧ (∀ j, j < 4 → lI h (c + 13) (nI j) = some (h.2.1 (c + 13) j)) ∧ (∀ j x, j < 4 → sI h (c + 13) (nI j) x = some (hI h (c + 13) j x)) ∧ (∀ j, j < 4 → lI h (c + 14) (nI j) = some (h.2.1 (c + 14) j)) ∧ (∀ j x, j < 4 → sI h (c + 14) (nI j) x = some (hI h (c + 14) j x)) ∧ (∀ j, j < 12288 → lI h (c + 15) (nI j) = some (h.2.1 (c + 15) j)) ∧ (∀ j x, j < 12288 → sI h (c + 15) (nI j) x = some (hI h (c + 15) j x)) := fun h c hs => by
  have k0 := cs_kd hs 0 (by decide)
  rw [Nat.add_zero] at k0
  have kk := cs_kd hs
  have nn := cs_ln hs
  obtain ⟨-, -, r0, r1, n0, n1, n2⟩ := hs
  exact ⟨ck_K k0, (gR_K k0).trans r0, (gR_K k0).trans (r1 1 (by decide) (by decide)), (gR_K k0).trans (r1 2 (by decide) (by decide)), (gR_K k0).trans (r1 3 (by decide) (by decide)), (gR_K k0).trans (r1 4 (by decide) (by decide)), (gR_K k0).trans (r1 5 (by decide) (by decide)), (gR_K k0).trans (r1 6 (by decide) (by decide)), (gR_K k0).trans (r1 7 (by decide) (by decide)), (gR_K k0).trans (r1 8 (by decide) (by decide)), (gR_K k0).trans (r1 9 (by decide) (by decide)), (gR_K k0).trans (r1 10 (by decide) (by decide)), (gR_K k0).trans (r1 11 (by decide) (by decide)), gI_K k0, fun x => pI_K k0, gI_K k0, fun x => pI_K k0, gI_K k0, fun x => pI_K k0, gI_K k0, fun x => pI_K k0, gI_K k0, fun x => pI_K k0, gI_K k0, fun x => pI_K k0, gI_K k0, fun x => pI_K k0, ck_K (kk 1 (by decide)), (gR_K (kk 1 (by decide))).trans n0, (gR_K (kk 1 (by decide))).trans n1, (gR_K (kk 1 (by decide))).trans n2, gI_K (kk 1 (by decide)), fun x => pI_K (kk 1 (by decide)), fun j hj => lJ_K (kk 2 (by decide)) (nn 2 (by decide)) (by decide) hj, fun j x hj => sJ_K (kk 2 (by decide)) (nn 2 (by decide)) (by decide) hj, fun j hj => lI_K (kk 3 (by decide)) (nn 3 (by decide)) (by decide) hj, fun j x hj => sI_K (kk 3 (by decide)) (nn 3 (by decide)) (by decide) hj, fun j hj => lI_K (kk 4 (by decide)) (nn 4 (by decide)) (by decide) hj, fun j x hj => sI_K (kk 4 (by decide)) (nn 4 (by decide)) (by decide) hj, fun j hj => lI_K (kk 5 (by decide)) (nn 5 (by decide)) (by decide) hj, fun j x hj => sI_K (kk 5 (by decide)) (nn 5 (by decide)) (by decide) hj, fun j hj => lI_K (kk 6 (by decide)) (nn 6 (by decide)) (by decide) hj, fun j x hj => sI_K (kk 6 (by decide)) (nn 6 (by decide)) (by decide) hj, fun j hj => lI_K (kk 7 (by decide)) (nn 7 (by decide)) (by decide) hj, fun j x hj => sI_K (kk 7 (by decide)) (nn 7 (by decide)) (by decide) hj, fun j hj => lI_K (kk 8 (by decide)) (nn 8 (by decide)) (by decide) hj, fun j x hj => sI_K (kk 8 (by decide)) (nn 8 (by decide)) (by decide) hj, fun j hj => lI_K (kk 9 (by decide)) (nn 9 (by decide)) (by decide) hj, fun j x hj => sI_K (kk 9 (by decide)) (nn 9 (by decide)) (by decide) hj, fun j hj => lI_K (kk 10 (by decide)) (nn 10 (by decide)) (by decide) hj, fun j x hj => sI_K (kk 10 (by decide)) (nn 10 (by decide)) (by decide) hj, fun j hj => lI_K (kk 11 (by decide)) (nn 11 (by decide)) (by decide) hj, fun j x hj => sI_K (kk 11 (by decide)) (nn 11 (by decide)) (by decide) hj, fun j hj => lI_K (kk 12 (by decide)) (nn 12 (by decide)) (by decide) hj, fun j x hj => sI_K (kk 12 (by decide)) (nn 12 (by decide)) (by decide) hj, fun j hj => lI_K (kk 13 (by decide)) (nn 13 (by decide)) (by decide) hj, fun j x hj => sI_K (kk 13 (by decide)) (nn 13 (by decide)) (by decide) hj, fun j hj => lI_K (kk 14 (by decide)) (nn 14 (by decide)) (by decide) hj, fun j x hj => sI_K (kk 14 (by decide)) (nn 14 (by decide)) (by decide) hj, fun j hj => lI_K (kk 15 (by decide)) (nn 15 (by decide)) (by decide) hj, fun j x hj => sI_K (kk 15 (by decide)) (nn 15 (by decide)) (by decide) hj⟩
/-! four sets of four bits; four answers of five bits -/
def pk4 (g : Nat → Nat) : Nat := 16 * (16 * (16 * g 3 + g 2) + g 1) + g 0
def pk5 (s : Nat → Nat) : Nat := 32 * (32 * (32 * s 3 + s 2) + s 1) + s 0
theorem and16 {a b c d : Nat} (ha : a < 16) (hc : c < 16) : (16 * b + a) &&& (16 * d + c) = 16 * (b &&& d) + (a &&& c) := by
  have hac : a &&& c < 2 ^ 4 := Nat.lt_of_le_of_lt Nat.and_le_left ha
  apply Nat.eq_of_testBit_eq
  intro i
  rw [Nat.testBit_and, show (16 : Nat) = 2 ^ 4 from rfl, Nat.testBit_two_pow_mul_add b (show a < 2 ^ 4 from ha), Nat.testBit_two_pow_mul_add d (show c < 2 ^ 4 from hc), Nat.testBit_two_pow_mul_add _ hac]
  split
  · rw [Nat.testBit_and]
  · rw [Nat.testBit_and]
theorem pk4_and {f g : Nat → Nat} (hf : ∀ u, u < 4 → f u < 16) (hg : ∀ u, u < 4 → g u < 16) : pk4 f &&& pk4 g = pk4 (fun u => f u &&& g u) := by
  unfold pk4
  rw [and16 (hf 0 (by decide)) (hg 0 (by decide)), and16 (hf 1 (by decide)) (hg 1 (by decide)), and16 (hf 2 (by decide)) (hg 2 (by decide))]
theorem pk4_lt {g : Nat → Nat} (hg : ∀ u, u < 4 → g u < 16) : pk4 g < 65536 := by
  have h0 := hg 0 (by decide)
  have h1 := hg 1 (by decide)
  have h2 := hg 2 (by decide)
  have h3 := hg 3 (by decide)
  unfold pk4
  omega
theorem and15 (x : Nat) : x &&& 15 = x % 16 := by rw [show (15 : Nat) = 2 ^ 4 - 1 from rfl, Nat.and_two_pow_sub_one_eq_mod]
theorem and31 (x : Nat) : x &&& 31 = x % 32 := by rw [show (31 : Nat) = 2 ^ 5 - 1 from rfl, Nat.and_two_pow_sub_one_eq_mod]
theorem lt4 {u : Nat} (h : u < 4) : u = 0 ∨ u = 1 ∨ u = 2 ∨ u = 3 := by omega
theorem pk4_at {g : Nat → Nat} (hg : ∀ u, u < 4 → g u < 16) {u : Nat} (hu : u < 4) : (pk4 g >>> (u * 4)) &&& 15 = g u := by
  have h0 := hg 0 (by decide)
  have h1 := hg 1 (by decide)
  have h2 := hg 2 (by decide)
  have h3 := hg 3 (by decide)
  rw [and15, Nat.shiftRight_eq_div_pow]
  unfold pk4
  rcases lt4 hu with rfl | rfl | rfl | rfl
  · show _ / 1 % 16 = _
    omega
  · show _ / 16 % 16 = _
    omega
  · show _ / 256 % 16 = _
    omega
  · show _ / 4096 % 16 = _
    omega
theorem pk5_lt {s : Nat → Nat} (hs : ∀ k, k < 4 → s k < 32) : pk5 s < 1048576 := by
  have h0 := hs 0 (by decide)
  have h1 := hs 1 (by decide)
  have h2 := hs 2 (by decide)
  have h3 := hs 3 (by decide)
  unfold pk5
  omega
theorem pk5_at {s : Nat → Nat} (hs : ∀ k, k < 4 → s k < 32) {k : Nat} (hk : k < 4) : (pk5 s >>> (k * 5)) &&& 31 = s k := by
  have h0 := hs 0 (by decide)
  have h1 := hs 1 (by decide)
  have h2 := hs 2 (by decide)
  have h3 := hs 3 (by decide)
  rw [and31, Nat.shiftRight_eq_div_pow]
  unfold pk5
  rcases lt4 hk with rfl | rfl | rfl | rfl
  · show _ / 1 % 32 = _
    omega
  · show _ / 32 % 32 = _
    omega
  · show _ / 1024 % 32 = _
    omega
  · show _ / 32768 % 32 = _
    omega
theorem shr_lt {x k b : Nat} (h : x < b) : x >>> k < b := Nat.lt_of_le_of_lt (Nat.shiftRight_le x k) h
/-- all kinds but those of v, and of v these -/
theorem mask4 : ∀ v, v < 4 → ∀ k, k < 16 → (nI 65535 &&& ((nI 15 <<< nI (v * 4)) ^^^ m1)) ||| (nI k <<< nI (v * 4)) = nI (pk4 (fun u => if u = v then k else 15)) := by decide +kernel
theorem c_kinds {h : aH} {s : Nat → Nat} (hs : ∀ k, k < 4 → s k < 32) {a : Nat} (ha : a < 32) : f_X1_kindsAnswering h (nI (pk5 s)) (nI a) = some (nI (orN (fun k => if s k = a then 2 ^ k else 0) 4)) := by
  have hp := pk5_lt hs
  have e : f_X1_kindsAnswering_l7 h (nI a) (nI 0) (nI (pk5 s)) (nI 0) = some (nI (orN (fun k => if s k = a then 2 ^ k else 0) 4)) := by
    refine for0 (body := fun zz : Int32 × Int32 × Int32 => f_X1_kindsAnswering_b7 h (nI a) zz.1 zz.2.1 zz.2.2) (fun j => (nI (orN (fun k => if s k = a then 2 ^ k else 0) j), nI (pk5 s >>> (j * 5)), nI j)) (4) (e := nI (orN (fun k => if s k = a then 2 ^ k else 0) 4)) (rfl) (by decide) (fun j hj => ?_) ?_
    · have h1 := pk5_at hs hj
      have h2 := hs j hj
      have h3 := shr_lt (k := j * 5) hp
      have h4 : (pk5 s >>> (j * 5)) >>> 5 = pk5 s >>> ((j + 1) * 5) := by rw [← Nat.shiftRight_add, Nat.add_mul]
      by_cases hx : s j = a
      · simp (disch := first | assumption | omega | decide) only [f_X1_kindsAnswering_b7, f_X1_kindsAnswering_j28, LI, ↓li_m1, nI_add, pk_mul, nn_sub, nn_m1, nn_div, nn_rem, nn_nz, nn_mod, nJ_l, lN_add, lN_mul, nn_tb1, nI_bt, nn_and, nn_or, nn_xor, nn_shr, nn_1shl, nn_31, il_p, il_n, it_p, it_n, ie_p, ie_n, ie_b, ie_b1, ie_m, ie_mm, it_m, it_m0, il_m0, bI_rZ, Option.bind_some, bd2_some, Nat.add_zero, Nat.zero_add, if_true, if_false, Bool.false_eq_true, eq_self, h1, h4]
        simp only [orN, hx, if_true]
      · simp (disch := first | assumption | omega | decide) only [f_X1_kindsAnswering_b7, f_X1_kindsAnswering_j28, LI, ↓li_m1, nI_add, pk_mul, nn_sub, nn_m1, nn_div, nn_rem, nn_nz, nn_mod, nJ_l, lN_add, lN_mul, nn_tb1, nI_bt, nn_and, nn_or, nn_xor, nn_shr, nn_1shl, nn_31, il_p, il_n, it_p, it_n, ie_p, ie_n, ie_b, ie_b1, ie_m, ie_mm, it_m, it_m0, il_m0, bI_rZ, Option.bind_some, bd2_some, Nat.add_zero, Nat.zero_add, if_true, if_false, Bool.false_eq_true, eq_self, h1, h4]
        simp only [orN, hx, if_false, Nat.or_zero]
    · simp (disch := first | assumption | omega | decide) only [f_X1_kindsAnswering_b7, f_X1_kindsAnswering_j28, LI, ↓li_m1, nI_add, pk_mul, nn_sub, nn_m1, nn_div, nn_rem, nn_nz, nn_mod, nJ_l, lN_add, lN_mul, nn_tb1, nI_bt, nn_and, nn_or, nn_xor, nn_shr, nn_1shl, nn_31, il_p, il_n, it_p, it_n, ie_p, ie_n, ie_b, ie_b1, ie_m, ie_mm, it_m, it_m0, il_m0, bI_rZ, Option.bind_some, bd2_some, Nat.add_zero, Nat.zero_add, if_true, if_false, Bool.false_eq_true, eq_self]
  simp (disch := first | assumption | omega | decide) only [f_X1_kindsAnswering, LI, ↓li_m1, nI_add, pk_mul, nn_sub, nn_m1, nn_div, nn_rem, nn_nz, nn_mod, nJ_l, lN_add, lN_mul, nn_tb1, nI_bt, nn_and, nn_or, nn_xor, nn_shr, nn_1shl, nn_31, il_p, il_n, it_p, it_n, ie_p, ie_n, ie_b, ie_b1, ie_m, ie_mm, it_m, it_m0, il_m0, bI_rZ, Option.bind_some, bd2_some, Nat.add_zero, Nat.zero_add, if_true, if_false, Bool.false_eq_true, eq_self, e]
def aoN (s : Nat → Nat) (m : Nat) : Nat → Nat := orN (fun k => if m.testBit k = true then 2 ^ s k else 0)
theorem c_answersOf {h : aH} {s : Nat → Nat} (hs : ∀ k, k < 4 → s k < 32) {m : Nat} (hm : m < 2147483648) : f_X1_answersOf h (nI (pk5 s)) (nI m) = some (nI (aoN s m 4)) := by
  have hp := pk5_lt hs
  have e : f_X1_answersOf_l7 h (nI m) (nI 0) (nI (pk5 s)) (nI 0) = some (nI (aoN s m 4)) := by
    refine for0 (body := fun zz : Int32 × Int32 × Int32 => f_X1_answersOf_b7 h (nI m) zz.1 zz.2.1 zz.2.2) (fun j => (nI (aoN s m j), nI (pk5 s >>> (j * 5)), nI j)) (4) (e := nI (aoN s m 4)) (rfl) (by decide) (fun j hj => ?_) ?_
    · have h1 := pk5_at hs hj
      have h2 := hs j hj
      have h3 := shr_lt (k := j * 5) hp
      have h4 : (pk5 s >>> (j * 5)) >>> 5 = pk5 s >>> ((j + 1) * 5) := by rw [← Nat.shiftRight_add, Nat.add_mul]
      by_cases hx : m.testBit j = true
      · simp (disch := first | assumption | omega | decide) only [f_X1_answersOf_b7, f_X1_answersOf_j31, LI, ↓li_m1, nI_add, pk_mul, nn_sub, nn_m1, nn_div, nn_rem, nn_nz, nn_mod, nJ_l, lN_add, lN_mul, nn_tb1, nI_bt, nn_and, nn_or, nn_xor, nn_shr, nn_1shl, nn_31, il_p, il_n, it_p, it_n, ie_p, ie_n, ie_b, ie_b1, ie_m, ie_mm, it_m, it_m0, il_m0, bI_rZ, Option.bind_some, bd2_some, Nat.add_zero, Nat.zero_add, if_true, if_false, Bool.false_eq_true, eq_self, h1, h4, hx]
        simp only [aoN, orN, hx, if_true]
      · rw [Bool.not_eq_true] at hx
        simp (disch := first | assumption | omega | decide) only [f_X1_answersOf_b7, f_X1_answersOf_j31, LI, ↓li_m1, nI_add, pk_mul, nn_sub, nn_m1, nn_div, nn_rem, nn_nz, nn_mod, nJ_l, lN_add, lN_mul, nn_tb1, nI_bt, nn_and, nn_or, nn_xor, nn_shr, nn_1shl, nn_31, il_p, il_n, it_p, it_n, ie_p, ie_n, ie_b, ie_b1, ie_m, ie_mm, it_m, it_m0, il_m0, bI_rZ, Option.bind_some, bd2_some, Nat.add_zero, Nat.zero_add, if_true, if_false, Bool.false_eq_true, eq_self, h1, h4, hx]
        simp only [aoN, orN, hx, Bool.false_eq_true, if_false, Nat.or_zero]
    · simp (disch := first | assumption | omega | decide) only [f_X1_answersOf_b7, f_X1_answersOf_j31, LI, ↓li_m1, nI_add, pk_mul, nn_sub, nn_m1, nn_div, nn_rem, nn_nz, nn_mod, nJ_l, lN_add, lN_mul, nn_tb1, nI_bt, nn_and, nn_or, nn_xor, nn_shr, nn_1shl, nn_31, il_p, il_n, it_p, it_n, ie_p, ie_n, ie_b, ie_b1, ie_m, ie_mm, it_m, it_m0, il_m0, bI_rZ, Option.bind_some, bd2_some, Nat.add_zero, Nat.zero_add, if_true, if_false, Bool.false_eq_true, eq_self]
  simp (disch := first | assumption | omega | decide) only [f_X1_answersOf, LI, ↓li_m1, nI_add, pk_mul, nn_sub, nn_m1, nn_div, nn_rem, nn_nz, nn_mod, nJ_l, lN_add, lN_mul, nn_tb1, nI_bt, nn_and, nn_or, nn_xor, nn_shr, nn_1shl, nn_31, il_p, il_n, it_p, it_n, ie_p, ie_n, ie_b, ie_b1, ie_m, ie_mm, it_m, it_m0, il_m0, bI_rZ, Option.bind_some, bd2_some, Nat.add_zero, Nat.zero_add, if_true, if_false, Bool.false_eq_true, eq_self, e]
theorem c_answerOf {h : aH} {s : Nat → Nat} (hs : ∀ k, k < 4 → s k < 32) {k : Nat} (hk : k < 4) : f_X1_answerOf h (nI (pk5 s)) (nI k) = some (nI (s k)) := by
  have hp := pk5_lt hs
  have h1 := pk5_at hs hk
  simp (disch := first | assumption | omega | decide) only [f_X1_answerOf, LI, ↓li_m1, nI_add, pk_mul, nn_sub, nn_m1, nn_div, nn_rem, nn_nz, nn_mod, nJ_l, lN_add, lN_mul, nn_tb1, nI_bt, nn_and, nn_or, nn_xor, nn_shr, nn_1shl, nn_31, il_p, il_n, it_p, it_n, ie_p, ie_n, ie_b, ie_b1, ie_m, ie_mm, it_m, it_m0, il_m0, bI_rZ, Option.bind_some, bd2_some, Nat.add_zero, Nat.zero_add, if_true, if_false, Bool.false_eq_true, eq_self, h1]
/-- which kinds all may be: who is not there any -/
def myN (A : Nat → Nat) (u : Nat) : Nat := if u < A 4 then mayN A u else 15
theorem myN_lt {A : Nat → Nat} (u : Nat) : myN A u < 16 := by
  unfold myN
  split
  · exact mayN_lt A u
  · decide
def qwN (A : Nat → Nat) (Q : Nat → Nat → Bool) (w : Nat) : Nat → Nat := orN (fun q => if Q q w = true then 2 ^ q else 0)
theorem qwN_lt (A : Nat → Nat) (Q : Nat → Nat → Bool) (w n : Nat) : qwN A Q w n < 2 ^ n := orN_lt (k := n) (fun i hi => by
  split
  · exact Nat.pow_lt_pow_right (by decide) hi
  · exact Nat.two_pow_pos n)
theorem qwN_bit (A : Nat → Nat) (Q : Nat → Nat → Bool) (w : Nat) {n q : Nat} (hq : q < n) : (qwN A Q w n).testBit q = Q q w := by
  unfold qwN
  rw [orN_bit]
  cases hx : Q q w
  · rw [anyB_f]
    intro i hi
    split
    · rename_i h1
      rw [Nat.testBit_two_pow]
      by_cases h2 : i = q
      · rw [h2, hx] at h1
        cases h1
      · simp [h2]
    · exact Nat.zero_testBit q
  · rw [anyB_iff]
    exact ⟨q, hq, by rw [if_pos hx, Nat.testBit_two_pow]; simp⟩
/-- the class's case at c holds the same as the reference's -/
def CC (h : aH) (c : Nat) (A : Nat → Nat) (P : Nat → Bool) (Q : Nat → Nat → Bool) (S : Nat → Nat → Nat → Nat → Nat) : Prop :=
  (h.2.1 c 12 = nI (A 0) ∧ h.2.1 c 13 = nI (A 1) ∧ h.2.1 c 14 = nI (A 2) ∧ h.2.1 c 15 = nI (cntB P (A 2)) ∧ h.2.1 c 16 = nI (A 3) ∧ h.2.1 c 17 = nI (A 4) ∧ h.2.1 c 18 = nI (pk4 (myN A))) ∧
  (∀ f, f < A 0 → h.2.1 (c + 5) f = nI (A (56 + f)) ∧ h.2.1 (c + 5) (f + 1) = nI (A (56 + f) + A (60 + f)) ∧ h.2.1 (c + 6) f = nI (strd A f)) ∧
  (∀ v, v < A 1 → h.2.1 (c + 7) v = nI (A (8 + v)) ∧ h.2.1 (c + 8) v = nI (A (32 + v))) ∧
  (∀ w, w < A 2 → h.2.1 (c + 9) w = nI (if P w = true then wtN A w else 0) ∧ h.2.1 (c + 10) w = nI (qwN A Q w (A 3))) ∧
  (∀ q, q < A 3 → h.2.1 (c + 11) q = nI (A (64 + q))) ∧
  (∀ v, v < A 4 → (∀ k, k < 4 → h.2.1 (c + 12) (v * 4 + k) = nI (A (76 + 6 * v + k))) ∧ h.2.1 (c + 13) v = nI (A (76 + 6 * v + 4)) ∧ h.2.1 (c + 14) v = nI (A (76 + 6 * v + 5))) ∧
  (∀ v q w, v < A 4 → q < A 3 → w < A 2 → P w = true → h.2.1 (c + 15) ((v * 12 + q) * 256 + w) = nI (pk5 (S v q w)) ∧ ∀ k, k < 4 → S v q w k < 2 * A 3)
theorem cc_fr {h h' : aH} {c : Nat} {A : Nat → Nat} {P : Nat → Bool} {Q : Nat → Nat → Bool} {S : Nat → Nat → Nat → Nat → Nat} {cI cJ f0 f1 : List Nat} (hf : FR h h' cI cJ f0 f1) (h1 : ∀ x ∈ cI, x < 26 ∨ (41 < x ∧ x < 136)) (hs : CS h c) (hc : CC h c A P Q S) : CC h' c A P Q S := by
  have e : ∀ j, j < 16 → h'.2.1 (c + j) = h.2.1 (c + j) := fun j hj => hf.I (c + j) (fun hm => by
    have := h1 _ hm
    have := hs.1
    omega) (by have := hs.1; omega) (by have := hs.1; omega)
  have e0 := e 0 (by decide)
  rw [Nat.add_zero] at e0
  unfold CC
  rw [e0, e 5 (by decide), e 6 (by decide), e 7 (by decide), e 8 (by decide), e 9 (by decide), e 10 (by decide), e 11 (by decide), e 12 (by decide), e 13 (by decide), e 14 (by decide), e 15 (by decide)]
  exact hc
theorem cs_fr {h h' : aH} {c : Nat} {cI cJ f0 f1 : List Nat} (hf : FR h h' cI cJ f0 f1) (hs : CS h c) : CS h' c := by
  unfold CS
  rw [hf.1, hf.2.1]
  exact hs
theorem strd_le {A : Nat → Nat} (hw : WF A) (f : Nat) : strd A f ≤ 1296 := by
  have : ∀ n, stM A (A 0) n ≤ 6 ^ n ∨ A 0 < n := fun n => by
    induction n with
    | zero => exact Or.inl (Nat.le_refl 1)
    | succ n ih =>
      rcases ih with ih | ih
      · rcases Nat.lt_or_ge n (A 0) with q | q
        · exact Or.inl (by
            show stM A (A 0) n * A (60 + (A 0 - 1 - n)) ≤ 6 ^ n * 6
            exact Nat.mul_le_mul ih (hw.1.2.2.2.2 _ (by omega)).2.1)
        · exact Or.inr (by omega)
      · exact Or.inr (by omega)
  have b := hw.1.1
  rcases this (A 0 - 1 - f) with q | q
  · exact Nat.le_trans q (Nat.pow_le_pow_right (by decide) (by omega) : 6 ^ (A 0 - 1 - f) ≤ 6 ^ 4)
  · omega
theorem c_canBe {h : aH} {c : Nat} (hs : CS h c) {A : Nat → Nat} {P : Nat → Bool} {Q : Nat → Nat → Bool} {S : Nat → Nat → Nat → Nat → Nat} (hc : CC h c A P Q S) (hw : WF A) {w : Nat} (h1 : w < A 2) : f_X1_canBe h c (nI w) = some (bI (P w)) := by
  obtain ⟨b0, b1, b2l, b2, b3, b4⟩ := wf_b hw
  have e := (hc.2.2.2.1 w h1).1
  have q := wtN_le hw (w := w)
  cases hp : P w
  · rw [hp] at e
    simp (disch := first | assumption | omega | decide) only [f_X1_canBe, SC, LI, ↓li_m1, nI_add, pk_mul, nn_sub, nn_m1, nn_div, nn_rem, nn_nz, nn_mod, nJ_l, lN_add, lN_mul, nn_tb1, nI_bt, nn_and, nn_or, nn_xor, nn_shr, nn_1shl, nn_31, il_p, il_n, it_p, it_n, ie_p, ie_n, ie_b, ie_b1, ie_m, ie_mm, it_m, it_m0, il_m0, bI_rZ, Option.bind_some, bd2_some, Nat.add_zero, Nat.zero_add, if_true, if_false, Bool.false_eq_true, eq_self, e]
    rfl
  · rw [hp, if_pos rfl] at e
    simp (disch := first | assumption | omega | decide) only [f_X1_canBe, SC, LI, ↓li_m1, nI_add, pk_mul, nn_sub, nn_m1, nn_div, nn_rem, nn_nz, nn_mod, nJ_l, lN_add, lN_mul, nn_tb1, nI_bt, nn_and, nn_or, nn_xor, nn_shr, nn_1shl, nn_31, il_p, il_n, it_p, it_n, ie_p, ie_n, ie_b, ie_b1, ie_m, ie_mm, it_m, it_m0, il_m0, bI_rZ, Option.bind_some, bd2_some, Nat.add_zero, Nat.zero_add, if_true, if_false, Bool.false_eq_true, eq_self, e]
    rfl
theorem c_inQ {h : aH} {c : Nat} (hs : CS h c) {A : Nat → Nat} {P : Nat → Bool} {Q : Nat → Nat → Bool} {S : Nat → Nat → Nat → Nat → Nat} (hc : CC h c A P Q S) (hw : WF A) {q w : Nat} (h1 : w < A 2) (hq : q < A 3) : f_X1_inQuestion h c (nI q) (nI w) = some (bI (Q q w)) := by
  obtain ⟨b0, b1, b2l, b2, b3, b4⟩ := wf_b hw
  have e := (hc.2.2.2.1 w h1).2
  have l1 := qwN_lt A Q w (A 3)
  have l2 : 2 ^ A 3 ≤ 2 ^ 12 := Nat.pow_le_pow_right (by decide) b3
  have l3 := qwN_bit A Q w hq
  simp (disch := first | assumption | omega | decide) only [f_X1_inQuestion, SC, LI, ↓li_m1, nI_add, pk_mul, nn_sub, nn_m1, nn_div, nn_rem, nn_nz, nn_mod, nJ_l, lN_add, lN_mul, nn_tb1, nI_bt, nn_and, nn_or, nn_xor, nn_shr, nn_1shl, nn_31, il_p, il_n, it_p, it_n, ie_p, ie_n, ie_b, ie_b1, ie_m, ie_mm, it_m, it_m0, il_m0, bI_rZ, Option.bind_some, bd2_some, Nat.add_zero, Nat.zero_add, if_true, if_false, Bool.false_eq_true, eq_self, e, l3]
theorem c_valueIn {h : aH} {c : Nat} (hs : CS h c) {A : Nat → Nat} {P : Nat → Bool} {Q : Nat → Nat → Bool} {S : Nat → Nat → Nat → Nat → Nat} (hc : CC h c A P Q S) (hw : WF A) {w f : Nat} (h1 : w < A 2) (hf : f < A 0) : f_X1_valueIn h c (nI w) (nI f) = some (nI (valN A w f)) := by
  obtain ⟨b0, b1, b2l, b2, b3, b4⟩ := wf_b hw
  obtain ⟨e1, e2, e3⟩ := hc.2.1 f hf
  obtain ⟨q1, q2, q3⟩ := hw.1.2.2.2.2 f hf
  have s0 : 0 < strd A f := stM_pos (fun g hg => (hw.1.2.2.2.2 g hg).1) _ (by omega)
  have s1 := strd_le hw f
  have d1 : w / strd A f < 256 := Nat.lt_of_le_of_lt (Nat.div_le_self _ _) (by omega)
  simp (disch := first | assumption | omega | decide) only [f_X1_valueIn, SC, LI, ↓li_m1, nI_add, pk_mul, nn_sub, nn_m1, nn_div, nn_rem, nn_nz, nn_mod, nJ_l, lN_add, lN_mul, nn_tb1, nI_bt, nn_and, nn_or, nn_xor, nn_shr, nn_1shl, nn_31, il_p, il_n, it_p, it_n, ie_p, ie_n, ie_b, ie_b1, ie_m, ie_mm, it_m, it_m0, il_m0, bI_rZ, Option.bind_some, bd2_some, Nat.add_zero, Nat.zero_add, if_true, if_false, Bool.false_eq_true, eq_self, e1, e2, e3, Nat.add_sub_cancel_left]
  rfl
theorem c_packed {h : aH} {c : Nat} (hs : CS h c) {A : Nat → Nat} {P : Nat → Bool} {Q : Nat → Nat → Bool} {S : Nat → Nat → Nat → Nat → Nat} (hc : CC h c A P Q S) (hw : WF A) {v q w : Nat} (hv : v < A 4) (hq : q < A 3) (h1 : w < A 2) (hp : P w = true) : f_X1_packedAnswers h c (nI v) (nI q) (nI w) = some (nI (pk5 (S v q w))) := by
  obtain ⟨b0, b1, b2l, b2, b3, b4⟩ := wf_b hw
  have e := (hc.2.2.2.2.2.2 v q w hv hq h1 hp).1
  simp (disch := first | assumption | omega | decide) only [f_X1_packedAnswers, SC, LI, ↓li_m1, nI_add, pk_mul, nn_sub, nn_m1, nn_div, nn_rem, nn_nz, nn_mod, nJ_l, lN_add, lN_mul, nn_tb1, nI_bt, nn_and, nn_or, nn_xor, nn_shr, nn_1shl, nn_31, il_p, il_n, it_p, it_n, ie_p, ie_n, ie_b, ie_b1, ie_m, ie_mm, it_m, it_m0, il_m0, bI_rZ, Option.bind_some, bd2_some, Nat.add_zero, Nat.zero_add, if_true, if_false, Bool.false_eq_true, eq_self, e]
theorem hI_R {h : aH} {a k : Nat} {x : Int32} : (hI h a k x).2.2.2 = h.2.2.2 := rfl
theorem hJ_R {h : aH} {a k : Nat} {x : Int64} : (hJ h a k x).2.2.2 = h.2.2.2 := rfl
theorem lyI {h : aH} {a k : Nat} {x : Int32} (hl : LAY h) : LAY (hI h a k x) := hl
theorem lyJ {h : aH} {a k : Nat} {x : Int64} (hl : LAY h) : LAY (hJ h a k x) := hl
theorem lywI {h : aH} {a : Nat} {g : Nat → Int32} (hl : LAY h) : LAY (wI h a g) := hl
theorem lywJ {h : aH} {a : Nat} {g : Nat → Int64} (hl : LAY h) : LAY (wJ h a g) := hl
theorem csI {h : aH} {c : Nat} {a k : Nat} {x : Int32} (hl : CS h c) : CS (hI h a k x) c := hl
theorem csJ {h : aH} {c : Nat} {a k : Nat} {x : Int64} (hl : CS h c) : CS (hJ h a k x) c := hl
theorem cswI {h : aH} {c : Nat} {a : Nat} {g : Nat → Int32} (hl : CS h c) : CS (wI h a g) c := hl
theorem cswJ {h : aH} {c : Nat} {a : Nat} {g : Nat → Int64} (hl : CS h c) : CS (wJ h a g) c := hl
