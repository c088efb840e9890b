/-! ===== the class's tokens ===== -/
def bS (t : Nat) : Int32 := (Int8.ofNat t).toInt32
theorem bS_ex (x : Int32) (h : x.toInt8.toInt32 = x) : ∃ t, t < 256 ∧ x = bS t := by
  refine ⟨x.toInt8.toBitVec.toNat, x.toInt8.toBitVec.isLt, ?_⟩
  unfold bS
  rw [show Int8.ofNat x.toInt8.toBitVec.toNat = x.toInt8 from ?_, h]
  apply Int8.toBitVec_inj.mp
  apply BitVec.eq_of_toNat_eq
  simp
theorem bS_255 : ∀ t, t < 256 → bS t &&& nI 255 = nI t := by decide +kernel
theorem bS_B : ∀ t, t < 256 → (if bS t = (10 : Int32) then some (1 : Int32) else if bS t = (32 : Int32) then some (1 : Int32) else some (0 : Int32)) = some (bI (chB t)) := by decide +kernel
theorem bS_L : ∀ t, t < 256 → (if bS t < (97 : Int32) then some (0 : Int32) else if (122 : Int32) < bS t then some (0 : Int32) else some (1 : Int32)) = some (bI (chL t)) := by decide +kernel
theorem bS_D : ∀ t, t < 256 → (if bS t < (48 : Int32) then some (0 : Int32) else if (57 : Int32) < bS t then some (0 : Int32) else some (1 : Int32)) = some (bI (chD t)) := by decide +kernel
def sgcN (t : Nat) : Nat := if t = 40 then 4 else if t = 41 then 5 else if t = 59 then 3 else 1
theorem bS_S : ∀ t, t < 256 → (if bS t = (40 : Int32) then some (4 : Int32) else if bS t = (41 : Int32) then some (5 : Int32) else if bS t = (59 : Int32) then some (3 : Int32) else some (1 : Int32)) = some (nI (sgcN t)) := by decide +kernel
theorem bS_l : ∀ t, t < 256 → chL t = true → bS t = nI t := by decide +kernel
theorem bS_d : ∀ t, t < 256 → chD t = true → bS t = nI t := by decide +kernel
theorem x_isB {h : aH} {t : Nat} (ht : t < 256) : f_X4_isBlank h (bS t) = some (bI (chB t)) := bS_B t ht
theorem x_isL {h : aH} {t : Nat} (ht : t < 256) : f_X4_isLetter h (bS t) = some (bI (chL t)) := bS_L t ht
theorem x_isD {h : aH} {t : Nat} (ht : t < 256) : f_X4_isDigit h (bS t) = some (bI (chD t)) := bS_D t ht
theorem x_sign {h : aH} {t : Nat} (ht : t < 256) : f_X4_signOf h (bS t) = some (nI (sgcN t)) := bS_S t ht
theorem hI_id {h : aH} {a k : Nat} {x : Int32} (e : h.2.1 a k = x) : hI h a k x = h := by
  have : va_up (h.2.1 a) k x = h.2.1 a := by
    funext j
    unfold va_up
    by_cases hj : j = k
    · rw [if_pos hj, hj, e]
    · rw [if_neg hj]
  rw [hI_w, this, wI_self]
theorem ll_or (a b : Nat) : lN a ||| lN b = lN (a ||| b) := by
  apply Int64.toBitVec_inj.mp
  show (Int64.ofNat a ||| Int64.ofNat b).toBitVec = (Int64.ofNat (a ||| b)).toBitVec
  rw [Int64.toBitVec_or, Int64.toBitVec_ofNat', Int64.toBitVec_ofNat', Int64.toBitVec_ofNat', BitVec.ofNat_or]
theorem ll_shl5 (v : Nat) : lN v <<< (5 : Int64) = lN (v * 32) := by
  apply Int64.toBitVec_inj.mp
  show (Int64.ofNat v <<< (5 : Int64)).toBitVec = (Int64.ofNat (v * 32)).toBitVec
  rw [Int64.toBitVec_shiftLeft, Int64.toBitVec_ofNat', Int64.toBitVec_ofNat']
  apply BitVec.eq_of_toNat_eq
  rw [show ((5 : Int64).toBitVec.smod 64) = (5#64) from by decide]
  simp [BitVec.toNat_shiftLeft, Nat.shiftLeft_eq]
theorem ll_shl8 (v : Nat) : lN v <<< (8 : Int64) = lN (v * 256) := by
  apply Int64.toBitVec_inj.mp
  show (Int64.ofNat v <<< (8 : Int64)).toBitVec = (Int64.ofNat (v * 256)).toBitVec
  rw [Int64.toBitVec_shiftLeft, Int64.toBitVec_ofNat', Int64.toBitVec_ofNat']
  apply BitVec.eq_of_toNat_eq
  rw [show ((8 : Int64).toBitVec.smod 64) = (8#64) from by decide]
  simp [BitVec.toNat_shiftLeft, Nat.shiftLeft_eq]
theorem ll_5 {v x : Nat} (hx : x < 32) : (lN v <<< (Int32.toInt64 (5 : Int32) &&& 63)) ||| lN x = lN (v * 32 + x) := by
  rw [show (Int32.toInt64 (5 : Int32) &&& 63) = (5 : Int64) from by decide, ll_shl5, ll_or]
  have := Nat.shiftLeft_add_eq_or_of_lt (show x < 2 ^ 5 from hx) v
  rw [Nat.shiftLeft_eq] at this
  rw [← this]
theorem ll_8 {v x : Nat} (hx : x < 256) : (lN v <<< (Int32.toInt64 (8 : Int32) &&& 63)) ||| lN x = lN (v * 256 + x) := by
  rw [show (Int32.toInt64 (8 : Int32) &&& 63) = (8 : Int64) from by decide, ll_shl8, ll_or]
  have := Nat.shiftLeft_add_eq_or_of_lt (show x < 2 ^ 8 from hx) v
  rw [Nat.shiftLeft_eq] at this
  rw [← this]
theorem lN_inj {a b : Nat} (ha : a < 2 ^ 64) (hb : b < 2 ^ 64) (h : lN a = lN b) : a = b := by
  have h2 := congrArg (fun q => q.toBitVec.toNat) h
  have e : ∀ x, x < 2 ^ 64 → (lN x).toBitVec.toNat = x := fun x hx => by
    show (Int64.ofNat x).toBitVec.toNat = x
    rw [Int64.toBitVec_ofNat', BitVec.toNat_ofNat]
    exact Nat.mod_eq_of_lt hx
  have h3 : (lN a).toBitVec.toNat = (lN b).toBitVec.toNat := h2
  rwa [e a ha, e b hb] at h3
theorem x_letter {h : aH} {v t : Nat} (ht : t < 256) (hl : chL t = true) : f_X4_withLetter h (lN v) (bS t) = some (lN (v * 32 + (t - 96))) := by
  unfold chL at hl
  have h97 : 97 ≤ t ∧ t ≤ 122 := by simpa using hl
  have e : Int32.toInt64 ((bS t - (97 : Int32)) + (1 : Int32)) = lN (t - 96) := by
    rw [bS_l t ht (by unfold chL; exact hl), show (97 : Int32) = nI 97 from rfl, nn_sub h97.1, nI_1, nJ_l (by omega), show t - 97 + 1 = t - 96 by omega]
  unfold f_X4_withLetter
  rw [e, ll_5 (by omega)]
/-- the tape holds T -/
def TT (h : aH) (T : Nat → Nat) : Prop := (∀ j, T j < 256) ∧ ∀ j, h.2.1 5 j = bS (T j)
theorem x_skip {h : aH} (hl : LAY h) {T : Nat → Nat} (ht : TT h T) {n e : Nat} (hn : n ≤ 900) (he : e ≤ n) (e7 : h.2.1 4 7 = nI n) (e8 : h.2.1 4 8 = nI e) (x : Int32) : f_X4_scan_l0 4 x h = some (hI h 4 8 (nI (rnE chB T n e))) := by
  obtain ⟨a1, a2, a3, a4⟩ := rn_in (p := chB) (T := T) (n := n) (e := e) he
  refine for0 (body := fun q : aH => f_X4_scan_b0 4 x q) (fun j => hI h 4 8 (nI (e + j))) (rnE chB T n e - e) (e := hI h 4 8 (nI (rnE chB T n e))) (by rw [Nat.add_zero, hI_id e8]) (by omega) (fun j hj => ?_) ?_
  · have b := ht.2 (e + j)
    have p := x_isB (h := hI h 4 8 (nI (e + j))) (ht.1 (e + j))
    rw [a3 (e + j) (by omega) (by omega)] at p
    have l1 : LAY (hI h 4 8 (nI (e + j))) := hl
    show f_X4_scan_b0 4 x (hI h 4 8 (nI (e + j))) = _
    simp (disch := first | assumption | omega | decide | ((repeat first | apply lyI | apply lyJ | apply lywI | apply lywJ | apply csI | apply csJ | apply cswI | apply cswJ); assumption)) only [f_X4_scan_b0, SX, rI_eq, rI_ne, rI_nk, rJ_eq, rJ_ne, rJ_nk, rI_J, rJ_I, LI, ↓li_m1, nI_add, pk_mul, nn_sub, nn_m1, nn_div, nn_rem, nn_nz, nn_mod, nJ_l, lN_add, lN_mul, nn_tb1, nI_bt, nn_and, nn_or, nn_xor, nn_shr, nn_1shl, nn_31, il_p, il_n, it_p, it_n, ie_p, ie_n, ie_b, ie_b1, ie_m, ie_mm, it_m, it_m0, il_m0, bI_rZ, Option.bind_some, bd2_some, Nat.add_zero, Nat.zero_add, if_true, if_false, Bool.false_eq_true, eq_self, hI_R, hJ_R, ng_t, ng_e, e7, b, p, bI_t, hI_hI]
    rfl
  · have l1 : LAY (hI h 4 8 (nI (rnE chB T n e))) := hl
    show f_X4_scan_b0 4 x (hI h 4 8 (nI (e + (rnE chB T n e - e)))) = _
    rw [show e + (rnE chB T n e - e) = rnE chB T n e by omega]
    rcases Nat.lt_or_ge (rnE chB T n e) n with u | u
    · have b := ht.2 (rnE chB T n e)
      have p := x_isB (h := hI h 4 8 (nI (rnE chB T n e))) (ht.1 (rnE chB T n e))
      rw [a4 u] at p
      simp (disch := first | assumption | omega | decide | ((repeat first | apply lyI | apply lyJ | apply lywI | apply lywJ | apply csI | apply csJ | apply cswI | apply cswJ); assumption)) only [f_X4_scan_b0, SX, rI_eq, rI_ne, rI_nk, rJ_eq, rJ_ne, rJ_nk, rI_J, rJ_I, LI, ↓li_m1, nI_add, pk_mul, nn_sub, nn_m1, nn_div, nn_rem, nn_nz, nn_mod, nJ_l, lN_add, lN_mul, nn_tb1, nI_bt, nn_and, nn_or, nn_xor, nn_shr, nn_1shl, nn_31, il_p, il_n, it_p, it_n, ie_p, ie_n, ie_b, ie_b1, ie_m, ie_mm, it_m, it_m0, il_m0, bI_rZ, Option.bind_some, bd2_some, Nat.add_zero, Nat.zero_add, if_true, if_false, Bool.false_eq_true, eq_self, hI_R, hJ_R, ng_t, ng_e, e7, b, p, bI_f]
    · simp (disch := first | assumption | omega | decide | ((repeat first | apply lyI | apply lyJ | apply lywI | apply lywJ | apply csI | apply csJ | apply cswI | apply cswJ); assumption)) only [f_X4_scan_b0, SX, rI_eq, rI_ne, rI_nk, rJ_eq, rJ_ne, rJ_nk, rI_J, rJ_I, LI, ↓li_m1, nI_add, pk_mul, nn_sub, nn_m1, nn_div, nn_rem, nn_nz, nn_mod, nJ_l, lN_add, lN_mul, nn_tb1, nI_bt, nn_and, nn_or, nn_xor, nn_shr, nn_1shl, nn_31, il_p, il_n, it_p, it_n, ie_p, ie_n, ie_b, ie_b1, ie_m, ie_mm, it_m, it_m0, il_m0, bI_rZ, Option.bind_some, bd2_some, Nat.add_zero, Nat.zero_add, if_true, if_false, Bool.false_eq_true, eq_self, hI_R, hJ_R, ng_t, ng_e, e7]
/-- the words that are no names, as the class keeps them -/
def WDS (h : aH) : Prop := ∀ k, k < 27 → h.2.2.1 6 k = lN (c5 (kwL k))
theorem x_kw {h : aH} (hl : LAY h) (hw : WDS h) {w : List Nat} (h8 : w.length ≤ 8) (hs : smW w) : f_X4_scanWord_l88 h 4 (lN (c5 w)) (nI 0) = some (match kwI w with | some k => .inl (nI k) | none => .inr ()) := by
  have cb := c5_b h8 hs
  have key : ∀ j, j < 27 → ((lg_cmp (lN (c5 (kwL j))) (lN (c5 w)) = nI 0) ↔ (kwL j == w) = true) := fun j hj => by
    have kb := c5_b (kw_ok j hj).1 (kw_sm hj)
    rw [lcmp_e, beq_iff_eq]
    constructor
    · intro e
      exact c5_inj _ _ _ rfl (kw_sm hj) hs (lN_inj (by omega) (by omega) e)
    · intro e
      rw [e]
  have := srch (body := fun q : Int32 => f_X4_scanWord_b88 h 4 (lN (c5 w)) q) (s := nI 0) (fun j => nI j) (fun k => kwL k == w) 27 (fun i => (Sum.inl (nI i) : Int32 ⊕ Unit)) (Sum.inr ()) rfl (by omega) (fun j hj hx => ?_) (fun j hj hx => ?_) ?_
  · exact this
  · have q := hw j hj
    have nk : ¬ lg_cmp (lN (c5 (kwL j))) (lN (c5 w)) = nI 0 := fun e => by
      rw [(key j hj).mp e] at hx
      cases hx
    simp (disch := first | assumption | omega | decide | ((repeat first | apply lyI | apply lyJ | apply lywI | apply lywJ | apply csI | apply csJ | apply cswI | apply cswJ); assumption)) only [f_X4_scanWord_b88, SX, LI, ↓li_m1, nI_add, pk_mul, nn_sub, nn_m1, nn_div, nn_rem, nn_nz, nn_mod, nJ_l, lN_add, lN_mul, nn_tb1, nI_bt, nn_and, nn_or, nn_xor, nn_shr, nn_1shl, nn_31, il_p, il_n, it_p, it_n, ie_p, ie_n, ie_b, ie_b1, ie_m, ie_mm, it_m, it_m0, il_m0, bI_rZ, Option.bind_some, bd2_some, Nat.add_zero, Nat.zero_add, if_true, if_false, Bool.false_eq_true, eq_self, hI_R, hJ_R, ng_t, ng_e, q, if_neg nk]
  · have q := hw j hj
    simp (disch := first | assumption | omega | decide | ((repeat first | apply lyI | apply lyJ | apply lywI | apply lywJ | apply csI | apply csJ | apply cswI | apply cswJ); assumption)) only [f_X4_scanWord_b88, SX, LI, ↓li_m1, nI_add, pk_mul, nn_sub, nn_m1, nn_div, nn_rem, nn_nz, nn_mod, nJ_l, lN_add, lN_mul, nn_tb1, nI_bt, nn_and, nn_or, nn_xor, nn_shr, nn_1shl, nn_31, il_p, il_n, it_p, it_n, ie_p, ie_n, ie_b, ie_b1, ie_m, ie_mm, it_m, it_m0, il_m0, bI_rZ, Option.bind_some, bd2_some, Nat.add_zero, Nat.zero_add, if_true, if_false, Bool.false_eq_true, eq_self, hI_R, hJ_R, ng_t, ng_e, q, if_pos ((key j hj).mpr hx)]
  · simp (disch := first | assumption | omega | decide | ((repeat first | apply lyI | apply lyJ | apply lywI | apply lywJ | apply csI | apply csJ | apply cswI | apply cswJ); assumption)) only [f_X4_scanWord_b88, SX, LI, ↓li_m1, nI_add, pk_mul, nn_sub, nn_m1, nn_div, nn_rem, nn_nz, nn_mod, nJ_l, lN_add, lN_mul, nn_tb1, nI_bt, nn_and, nn_or, nn_xor, nn_shr, nn_1shl, nn_31, il_p, il_n, it_p, it_n, ie_p, ie_n, ie_b, ie_b1, ie_m, ie_mm, it_m, it_m0, il_m0, bI_rZ, Option.bind_some, bd2_some, Nat.add_zero, Nat.zero_add, if_true, if_false, Bool.false_eq_true, eq_self, hI_R, hJ_R, ng_t, ng_e]
/-- the letters of a word -/
theorem x_wloop {h : aH} (hl : LAY h) {T : Nat → Nat} (ht : TT h T) {n f : Nat} (hn : n ≤ 900) (hf : f ≤ n) (e7 : h.2.1 4 7 = nI n) (e8 : h.2.1 4 8 = nI f) (x : Int32) : f_X4_scanWord_l5 4 x (lN 0) (nI 0) h = some (lN (c5 (wdL T f (min (rnE chL T n f - f) 8))), nI (rnE chL T n f - f), hI h 4 8 (nI (rnE chL T n f))) := by
  obtain ⟨a1, a2, a3, a4⟩ := rn_in (p := chL) (T := T) (n := n) (e := f) hf
  refine for0 (body := fun q : Int64 × Int32 × aH => f_X4_scanWord_b5 4 x q.1 q.2.1 q.2.2) (fun j => (lN (c5 (wdL T f (min j 8))), nI j, hI h 4 8 (nI (f + j)))) (rnE chL T n f - f) (e := (lN (c5 (wdL T f (min (rnE chL T n f - f) 8))), nI (rnE chL T n f - f), hI h 4 8 (nI (rnE chL T n f)))) (by rw [Nat.add_zero, hI_id e8]; rfl) (by omega) (fun j hj => ?_) ?_
  · have b := ht.2 (f + j)
    have tl := a3 (f + j) (by omega) (by omega)
    have p := x_isL (h := hI h 4 8 (nI (f + j))) (ht.1 (f + j))
    rw [tl] at p
    have l1 : LAY (hI h 4 8 (nI (f + j))) := hl
    show f_X4_scanWord_b5 4 x (lN (c5 (wdL T f (min j 8)))) (nI j) (hI h 4 8 (nI (f + j))) = some (.inl (lN (c5 (wdL T f (min (j + 1) 8))), nI (j + 1), hI h 4 8 (nI (f + (j + 1)))))
    rcases Nat.lt_or_ge j 8 with u | u
    · have q := x_letter (h := hI h 4 8 (nI (f + j))) (v := c5 (wdL T f j)) (ht.1 (f + j)) tl
      rw [show min (j + 1) 8 = j + 1 by omega, show min j 8 = j by omega, wd_s, c5_s]
      simp (disch := first | assumption | omega | decide | ((repeat first | apply lyI | apply lyJ | apply lywI | apply lywJ | apply csI | apply csJ | apply cswI | apply cswJ); assumption)) only [f_X4_scanWord_b5, f_X4_scanWord_j52, SX, rI_eq, rI_ne, rI_nk, rJ_eq, rJ_ne, rJ_nk, rI_J, rJ_I, LI, ↓li_m1, nI_add, pk_mul, nn_sub, nn_m1, nn_div, nn_rem, nn_nz, nn_mod, nJ_l, lN_add, lN_mul, nn_tb1, nI_bt, nn_and, nn_or, nn_xor, nn_shr, nn_1shl, nn_31, il_p, il_n, it_p, it_n, ie_p, ie_n, ie_b, ie_b1, ie_m, ie_mm, it_m, it_m0, il_m0, bI_rZ, Option.bind_some, bd2_some, Nat.add_zero, Nat.zero_add, if_true, if_false, Bool.false_eq_true, eq_self, hI_R, hJ_R, ng_t, ng_e, e7, b, p, bI_t, q, hI_hI]
      rfl
    · rw [show min (j + 1) 8 = 8 by omega, show min j 8 = 8 by omega]
      simp (disch := first | assumption | omega | decide | ((repeat first | apply lyI | apply lyJ | apply lywI | apply lywJ | apply csI | apply csJ | apply cswI | apply cswJ); assumption)) only [f_X4_scanWord_b5, f_X4_scanWord_j52, SX, rI_eq, rI_ne, rI_nk, rJ_eq, rJ_ne, rJ_nk, rI_J, rJ_I, LI, ↓li_m1, nI_add, pk_mul, nn_sub, nn_m1, nn_div, nn_rem, nn_nz, nn_mod, nJ_l, lN_add, lN_mul, nn_tb1, nI_bt, nn_and, nn_or, nn_xor, nn_shr, nn_1shl, nn_31, il_p, il_n, it_p, it_n, ie_p, ie_n, ie_b, ie_b1, ie_m, ie_mm, it_m, it_m0, il_m0, bI_rZ, Option.bind_some, bd2_some, Nat.add_zero, Nat.zero_add, if_true, if_false, Bool.false_eq_true, eq_self, hI_R, hJ_R, ng_t, ng_e, e7, b, p, bI_t, hI_hI]
      rfl
  · have l1 : LAY (hI h 4 8 (nI (rnE chL T n f))) := hl
    show f_X4_scanWord_b5 4 x _ _ (hI h 4 8 (nI (f + (rnE chL T n f - f)))) = _
    rw [show f + (rnE chL T n f - f) = rnE chL T n f by omega]
    rcases Nat.lt_or_ge (rnE chL T n f) n with u | u
    · have b := ht.2 (rnE chL T n f)
      have p := x_isL (h := hI h 4 8 (nI (rnE chL T n f))) (ht.1 (rnE chL T n f))
      rw [a4 u] at p
      simp (disch := first | assumption | omega | decide | ((repeat first | apply lyI | apply lyJ | apply lywI | apply lywJ | apply csI | apply csJ | apply cswI | apply cswJ); assumption)) only [f_X4_scanWord_b5, SX, rI_eq, rI_ne, rI_nk, rJ_eq, rJ_ne, rJ_nk, rI_J, rJ_I, LI, ↓li_m1, nI_add, pk_mul, nn_sub, nn_m1, nn_div, nn_rem, nn_nz, nn_mod, nJ_l, lN_add, lN_mul, nn_tb1, nI_bt, nn_and, nn_or, nn_xor, nn_shr, nn_1shl, nn_31, il_p, il_n, it_p, it_n, ie_p, ie_n, ie_b, ie_b1, ie_m, ie_mm, it_m, it_m0, il_m0, bI_rZ, Option.bind_some, bd2_some, Nat.add_zero, Nat.zero_add, if_true, if_false, Bool.false_eq_true, eq_self, hI_R, hJ_R, ng_t, ng_e, e7, b, p, bI_f]
    · simp (disch := first | assumption | omega | decide | ((repeat first | apply lyI | apply lyJ | apply lywI | apply lywJ | apply csI | apply csJ | apply cswI | apply cswJ); assumption)) only [f_X4_scanWord_b5, SX, rI_eq, rI_ne, rI_nk, rJ_eq, rJ_ne, rJ_nk, rI_J, rJ_I, LI, ↓li_m1, nI_add, pk_mul, nn_sub, nn_m1, nn_div, nn_rem, nn_nz, nn_mod, nJ_l, lN_add, lN_mul, nn_tb1, nI_bt, nn_and, nn_or, nn_xor, nn_shr, nn_1shl, nn_31, il_p, il_n, it_p, it_n, ie_p, ie_n, ie_b, ie_b1, ie_m, ie_mm, it_m, it_m0, il_m0, bI_rZ, Option.bind_some, bd2_some, Nat.add_zero, Nat.zero_add, if_true, if_false, Bool.false_eq_true, eq_self, hI_R, hJ_R, ng_t, ng_e, e7]
theorem nu_lt {T : Nat → Nat} {f : Nat} : ∀ {l}, (∀ j, j < l → chD (T (f + j)) = true) → nuL (wdL T f l) < 10 ^ l
  | 0, _ => Nat.one_pos
  | l + 1, h => by
    have ih := nu_lt (T := T) (f := f) (l := l) (fun j hj => h j (by omega))
    have hd := h l (by omega)
    unfold chD at hd
    have h2 : 48 ≤ T (f + l) ∧ T (f + l) ≤ 57 := by simpa using hd
    rw [wd_s, nu_s, Nat.pow_succ]
    omega
theorem x_nloop {h : aH} (hl : LAY h) {T : Nat → Nat} (ht : TT h T) {n f : Nat} (hn : n ≤ 900) (hf : f ≤ n) (e7 : h.2.1 4 7 = nI n) (e8 : h.2.1 4 8 = nI f) (x : Int32) : f_X4_scanNumber_l4 4 x (nI 0) (nI 0) h = some (nI (nuL (wdL T f (min (rnE chD T n f - f) 4))), nI (rnE chD T n f - f), hI h 4 8 (nI (rnE chD T n f))) := by
  obtain ⟨a1, a2, a3, a4⟩ := rn_in (p := chD) (T := T) (n := n) (e := f) hf
  refine for0 (body := fun q : Int32 × Int32 × aH => f_X4_scanNumber_b4 4 x q.1 q.2.1 q.2.2) (fun j => (nI (nuL (wdL T f (min j 4))), nI j, hI h 4 8 (nI (f + j)))) (rnE chD T n f - f) (e := (nI (nuL (wdL T f (min (rnE chD T n f - f) 4))), nI (rnE chD T n f - f), hI h 4 8 (nI (rnE chD T n f)))) (by rw [Nat.add_zero, hI_id e8]; rfl) (by omega) (fun j hj => ?_) ?_
  · have b := ht.2 (f + j)
    have tl := a3 (f + j) (by omega) (by omega)
    have p := x_isD (h := hI h 4 8 (nI (f + j))) (ht.1 (f + j))
    rw [tl] at p
    have bd := bS_d _ (ht.1 (f + j)) tl
    have h48 : 48 ≤ T (f + j) ∧ T (f + j) ≤ 57 := by
      unfold chD at tl
      simpa using tl
    have l1 : LAY (hI h 4 8 (nI (f + j))) := hl
    show f_X4_scanNumber_b4 4 x (nI (nuL (wdL T f (min j 4)))) (nI j) (hI h 4 8 (nI (f + j))) = some (.inl (nI (nuL (wdL T f (min (j + 1) 4))), nI (j + 1), hI h 4 8 (nI (f + (j + 1)))))
    rw [bd] at b p
    rcases Nat.lt_or_ge j 4 with u | u
    · rw [show min (j + 1) 4 = j + 1 by omega, show min j 4 = j by omega, wd_s, nu_s]
      simp (disch := first | assumption | omega | decide | ((repeat first | apply lyI | apply lyJ | apply lywI | apply lywJ | apply csI | apply csJ | apply cswI | apply cswJ); assumption)) only [f_X4_scanNumber_b4, f_X4_scanNumber_j53, SX, rI_eq, rI_ne, rI_nk, rJ_eq, rJ_ne, rJ_nk, rI_J, rJ_I, LI, ↓li_m1, nI_add, pk_mul, nn_sub, nn_m1, nn_div, nn_rem, nn_nz, nn_mod, nJ_l, lN_add, lN_mul, nn_tb1, nI_bt, nn_and, nn_or, nn_xor, nn_shr, nn_1shl, nn_31, il_p, il_n, it_p, it_n, ie_p, ie_n, ie_b, ie_b1, ie_m, ie_mm, it_m, it_m0, il_m0, bI_rZ, Option.bind_some, bd2_some, Nat.add_zero, Nat.zero_add, if_true, if_false, Bool.false_eq_true, eq_self, hI_R, hJ_R, ng_t, ng_e, e7, b, p, bI_t, hI_hI]
      rfl
    · rw [show min (j + 1) 4 = 4 by omega, show min j 4 = 4 by omega]
      simp (disch := first | assumption | omega | decide | ((repeat first | apply lyI | apply lyJ | apply lywI | apply lywJ | apply csI | apply csJ | apply cswI | apply cswJ); assumption)) only [f_X4_scanNumber_b4, f_X4_scanNumber_j53, SX, rI_eq, rI_ne, rI_nk, rJ_eq, rJ_ne, rJ_nk, rI_J, rJ_I, LI, ↓li_m1, nI_add, pk_mul, nn_sub, nn_m1, nn_div, nn_rem, nn_nz, nn_mod, nJ_l, lN_add, lN_mul, nn_tb1, nI_bt, nn_and, nn_or, nn_xor, nn_shr, nn_1shl, nn_31, il_p, il_n, it_p, it_n, ie_p, ie_n, ie_b, ie_b1, ie_m, ie_mm, it_m, it_m0, il_m0, bI_rZ, Option.bind_some, bd2_some, Nat.add_zero, Nat.zero_add, if_true, if_false, Bool.false_eq_true, eq_self, hI_R, hJ_R, ng_t, ng_e, e7, b, p, bI_t, hI_hI]
      rfl
  · have l1 : LAY (hI h 4 8 (nI (rnE chD T n f))) := hl
    show f_X4_scanNumber_b4 4 x _ _ (hI h 4 8 (nI (f + (rnE chD T n f - f)))) = _
    rw [show f + (rnE chD T n f - f) = rnE chD T n f by omega]
    rcases Nat.lt_or_ge (rnE chD T n f) n with u | u
    · have b := ht.2 (rnE chD T n f)
      have p := x_isD (h := hI h 4 8 (nI (rnE chD T n f))) (ht.1 (rnE chD T n f))
      rw [a4 u] at p
      simp (disch := first | assumption | omega | decide | ((repeat first | apply lyI | apply lyJ | apply lywI | apply lywJ | apply csI | apply csJ | apply cswI | apply cswJ); assumption)) only [f_X4_scanNumber_b4, SX, rI_eq, rI_ne, rI_nk, rJ_eq, rJ_ne, rJ_nk, rI_J, rJ_I, LI, ↓li_m1, nI_add, pk_mul, nn_sub, nn_m1, nn_div, nn_rem, nn_nz, nn_mod, nJ_l, lN_add, lN_mul, nn_tb1, nI_bt, nn_and, nn_or, nn_xor, nn_shr, nn_1shl, nn_31, il_p, il_n, it_p, it_n, ie_p, ie_n, ie_b, ie_b1, ie_m, ie_mm, it_m, it_m0, il_m0, bI_rZ, Option.bind_some, bd2_some, Nat.add_zero, Nat.zero_add, if_true, if_false, Bool.false_eq_true, eq_self, hI_R, hJ_R, ng_t, ng_e, e7, b, p, bI_f]
    · simp (disch := first | assumption | omega | decide | ((repeat first | apply lyI | apply lyJ | apply lywI | apply lywJ | apply csI | apply csJ | apply cswI | apply cswJ); assumption)) only [f_X4_scanNumber_b4, SX, rI_eq, rI_ne, rI_nk, rJ_eq, rJ_ne, rJ_nk, rI_J, rJ_I, LI, ↓li_m1, nI_add, pk_mul, nn_sub, nn_m1, nn_div, nn_rem, nn_nz, nn_mod, nJ_l, lN_add, lN_mul, nn_tb1, nI_bt, nn_and, nn_or, nn_xor, nn_shr, nn_1shl, nn_31, il_p, il_n, it_p, it_n, ie_p, ie_n, ie_b, ie_b1, ie_m, ie_mm, it_m, it_m0, il_m0, bI_rZ, Option.bind_some, bd2_some, Nat.add_zero, Nat.zero_add, if_true, if_false, Bool.false_eq_true, eq_self, hI_R, hJ_R, ng_t, ng_e, e7]
