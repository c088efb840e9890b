/-! ===== the class: which worlds can be, which have a value ===== -/
theorem vf_any {A : Nat → Nat} (hw : WF A) (vf : VFa A) {v w : Nat} (hv : v < A 1) : anyB (fun f => valN A w f == v) (A 0) = vlB A v w := by
  unfold vlB
  cases hb : (valN A w (A (8 + v)) == v) with
  | true =>
    rw [anyB_iff]
    exact ⟨A (8 + v), (hw.2.2.2.1 v hv).1, hb⟩
  | false =>
    rw [anyB_f]
    intro f hf
    cases hc : (valN A w f == v) with
    | false => rfl
    | true =>
      have e : valN A w f = v := beq_iff_eq.mp hc
      have p := (hw.1.2.2.2.2 f hf).1
      have e2 : A (8 + v) = f := by
        rw [← e]
        unfold valN
        exact vf f _ hf (Nat.mod_lt _ (by omega))
      rw [e2, hc] at hb
      cases hb
def rBit (h : aH) (a k u : Nat) : Bool := (h.2.2.1 a (k + u / 64)).toBitVec.getLsbD (u % 64)
theorem rb_set {h : aH} {a k l j u : Nat} (hj : j < 256) (hu : u < 256) (hl : k = l ∨ k + 4 ≤ l ∨ l + 4 ≤ k) : rBit (hJ h a (k + j / 64) (h.2.2.1 a (k + j / 64) ||| ((1 : Int64) <<< ((nI (j % 64)).toInt64 &&& 63)))) a l u = (rBit h a l u || (decide (l = k) && decide (u = j))) := by
  unfold rBit
  by_cases hx : l + u / 64 = k + j / 64
  · have hlk : l = k := by omega
    subst hlk
    have hd : u / 64 = j / 64 := by omega
    rw [hd, rJ_eq, j_set (by omega) (by omega), decide_eq_true rfl, Bool.true_and]
    have : decide (u % 64 = j % 64) = decide (u = j) := by rw [decide_eq_decide]; omega
    rw [this]
  · rw [rJ_nk hx]
    have : (decide (l = k) && decide (u = j)) = false := by
      by_cases h1 : l = k
      · rw [decide_eq_false (show ¬ u = j by intro e; subst e; omega), Bool.and_false]
      · rw [decide_eq_false h1, Bool.false_and]
    rw [this, Bool.or_false]
theorem rb_ne {h : aH} {a b k l u : Nat} {x : Int64} (hn : a ≠ b) : rBit (hJ h b k x) a l u = rBit h a l u := by
  unfold rBit
  rw [rJ_ne hn]
theorem x_vals {h : aH} {c : Nat} (hl : LAY h) (hs : CS h c) (h6 : h.2.2.2 42 6 = some c) {A : Nat → Nat} (hw : WF A) {j : Nat} (hj : j < 256) (e12 : h.2.1 c 12 = nI (A 0)) (ef : ∀ f, f < A 0 → h.2.1 (c + 5) f = nI (A (56 + f)) ∧ h.2.1 (c + 5) (f + 1) = nI (A (56 + f) + A (60 + f)) ∧ h.2.1 (c + 6) f = nI (strd A f)) : ∃ h', f_X2_makeWorldsOnce_l87 42 (nI j) ((1 : Int64) <<< ((nI (j % 64)).toInt64 &&& 63)) (nI 0) h = some h' ∧ FR h h' [] [49] [] [] ∧ ∀ v u, v < 24 → u < 256 → rBit h' 49 (4 * v) u = (rBit h 49 (4 * v) u || (decide (u = j) && anyB (fun f => valN A j f == v) (A 0))) := by
  obtain ⟨b0, b1, b2l, b2, b3, b4⟩ := wf_b hw
  refine forI (fun f (t : Int32 × aH) => ∃ g, t = (nI f, g) ∧ FR h g [] [49] [] [] ∧ ∀ v u, v < 24 → u < 256 → rBit g 49 (4 * v) u = (rBit h 49 (4 * v) u || (decide (u = j) && anyB (fun f => valN A j f == v) f))) _ (A 0) (by omega) ⟨h, rfl, FR.rf, fun v u _ _ => by rw [show anyB (fun f => valN A j f == v) 0 = false from rfl, Bool.and_false, Bool.or_false]⟩ ?_ ?_
  · rintro f _ hf ⟨g, rfl, fg, i1⟩
    have lg := fg.lay hl
    have sg := cs_fr fg hs
    have g6 : g.2.2.2 42 6 = some c := by rw [fg.2.1]; exact h6
    have c0 := hs.1
    have g12 : g.2.1 c 12 = nI (A 0) := by rw [fg.I c (by simp) (by omega) (by omega)]; exact e12
    have vi := d_valueIn sg hw hj hf (by rw [fg.I (c + 5) (by simp) (by omega) (by omega)]; exact (ef f hf).1) (by rw [fg.I (c + 5) (by simp) (by omega) (by omega)]; exact (ef f hf).2.1) (by rw [fg.I (c + 6) (by simp) (by omega) (by omega)]; exact (ef f hf).2.2)
    have v1 := val_lt hw (w := j) hf
    have sh : j >>> 6 = j / 64 := by rw [Nat.shiftRight_eq_div_pow]
    have ix : valN A j f * 4 + j / 64 = 4 * valN A j f + j / 64 := by omega
    refine ⟨(nI (f + 1), hJ g 49 (4 * valN A j f + j / 64) (g.2.2.1 49 (4 * valN A j f + j / 64) ||| ((1 : Int64) <<< ((nI (j % 64)).toInt64 &&& 63)))), ?_, _, rfl, fg.tr (FR.hJ (by decide)), fun v u hv hu => ?_⟩
    · simp (disch := first | assumption | omega | decide | ((repeat first | apply lyI | apply lyJ | apply lywI | apply lywJ | apply csI | apply csJ | apply cswI | apply cswJ); assumption)) only [f_X2_makeWorldsOnce_b87, SR, SC, LI, ↓li_m1, nI_add, pk_mul, nn_sub, nn_m1, nn_div, nn_rem, nn_nz, nn_mod, lN_add, lN_mul, nn_tb1, nI_bt, nn_and, nn_or, nn_xor, nn_shr, nn_1shl, nn_31, il_p, il_n, it_p, it_n, ie_p, ie_n, ie_b, ie_b1, ie_m, ie_mm, it_m, it_m0, il_m0, bI_rZ, Option.bind_some, bd2_some, Nat.add_zero, Nat.zero_add, if_true, if_false, Bool.false_eq_true, eq_self, hI_R, hJ_R, ng_t, ng_e, g6, g12, vi, sh, ix]
    · rw [rb_set hj hu (by omega), i1 v u hv hu]
      have s1 : anyB (fun f => valN A j f == v) (f + 1) = (anyB (fun f => valN A j f == v) f || (valN A j f == v)) := rfl
      rw [s1]
      have s2 : decide (4 * v = 4 * valN A j f) = (valN A j f == v) := by
        by_cases e : valN A j f = v
        · rw [e]
          simp
        · rw [decide_eq_false (by omega)]
          simp [e]
      rw [s2]
      cases rBit h 49 (4 * v) u <;> cases decide (u = j) <;> cases anyB (fun f => valN A j f == v) f <;> cases (valN A j f == v) <;> rfl
  · rintro _ ⟨g, rfl, fg, i1⟩
    have lg := fg.lay hl
    have sg := cs_fr fg hs
    have c0 := hs.1
    have g6 : g.2.2.2 42 6 = some c := by rw [fg.2.1]; exact h6
    have g12 : g.2.1 c 12 = nI (A 0) := by rw [fg.I c (by simp) (by omega) (by omega)]; exact e12
    exact ⟨g, by simp (disch := first | assumption | omega | decide | ((repeat first | apply lyI | apply lyJ | apply lywI | apply lywJ | apply csI | apply csJ | apply cswI | apply cswJ); assumption)) only [f_X2_makeWorldsOnce_b87, SR, SC, LI, ↓li_m1, nI_add, pk_mul, nn_sub, nn_m1, nn_div, nn_rem, nn_nz, nn_mod, nJ_l, lN_add, lN_mul, nn_tb1, nI_bt, nn_and, nn_or, nn_xor, nn_shr, nn_1shl, nn_31, il_p, il_n, it_p, it_n, ie_p, ie_n, ie_b, ie_b1, ie_m, ie_mm, it_m, it_m0, il_m0, bI_rZ, Option.bind_some, bd2_some, Nat.add_zero, Nat.zero_add, if_true, if_false, Bool.false_eq_true, eq_self, hI_R, hJ_R, ng_t, ng_e, g6, g12], fg, i1⟩
/-- makeWorldsOnce, for the first time -/
theorem x_once {h : aH} {c : Nat} (hl : LAY h) (hs : CS h c) (h6 : h.2.2.2 42 6 = some c) (h7 : h.2.1 42 7 = nI 0) {A Bv : Nat → Nat} (hw : WF A) (vf : VFa A) (a2 : A 2 = stM A (A 0) (A 0)) (e12 : h.2.1 c 12 = nI (A 0)) (ef : ∀ f, f < A 0 → h.2.1 (c + 5) f = nI (A (56 + f)) ∧ h.2.1 (c + 5) (f + 1) = nI (A (56 + f) + A (60 + f))) (ew : ∀ v, v < A 1 → h.2.1 (c + 8) v = nI (A (32 + v))) (en : ∀ v, v < 24 → h.2.1 48 v = nI (Bv v)) (bb : ∀ v, v < 24 → Bv v < 2 ^ 24) : ∃ h', f_X2_makeWorldsOnce h 42 = some h' ∧ FR h h' [42, c, c + 6, c + 9, c + 10] [49, 50] [] [] ∧ (∀ k, k ≠ 14 → k ≠ 15 → h'.2.1 c k = h.2.1 c k) ∧ h'.2.1 c 14 = nI (A 2) ∧ h'.2.1 42 7 = nI 1 ∧ h'.2.1 c 15 = nI (cntB (cnP A Bv) (A 2)) ∧ (∀ f, f < A 0 → h'.2.1 (c + 6) f = nI (strd A f)) ∧ (∀ w, w < A 2 → h'.2.1 (c + 9) w = nI (if cnP A Bv w = true then wtN A w else 0) ∧ h'.2.1 (c + 10) w = nI 0) ∧ (∀ w, w < 256 → rBit h' 50 0 w = cnP A Bv w) ∧ ∀ v w, v < A 1 → w < 256 → rBit h' 49 (4 * v) w = (cnP A Bv w && vlB A v w) := by
  obtain ⟨b0, b1, b2l, b2, b3, b4⟩ := wf_b hw
  have c0 := hs.1
  let h1 := hI h 42 7 (bI true)
  have f1 : FR h h1 [42] [] [] [] := FR.hI (by decide) (by decide) (by decide)
  have l1 : LAY h1 := hl
  have s1 : CS h1 c := hs
  have n42 : ∀ j, j < 16 → c + j ≠ 42 := fun j hj => by omega
  have e1I : ∀ j, j < 16 → h1.2.1 (c + j) = h.2.1 (c + j) := fun j hj => f1.I _ (by simp <;> omega) (by omega) (by omega)
  have e1c := e1I 0 (by decide)
  rw [Nat.add_zero] at e1c
  obtain ⟨h2, e2, f2, w1, w2, w3, w4, w5⟩ := x_worlds (h := h1) (Bv := Bv) l1 s1 hw a2 (by rw [e1c]; exact e12) (fun f hf => by rw [e1I 5 (by decide)]; exact ef f hf) (fun v hv => by rw [e1I 8 (by decide)]; exact ew v hv) (fun v hv => by rw [f1.I 48 (by decide) (by decide) (by decide)]; exact en v hv) bb
  have l2 := f2.lay l1
  have s2 := cs_fr f2 s1
  have fi1 : f_J7_fill_d0a16 h2 50 (0 : Int64) = some (wJ h2 50 (setF (h2.2.2.1 50) 0 4 (fun _ => (0 : Int64)))) := fill_JJ (lay_kd l2 50 (by decide)) (lay_ln l2 50 (by decide)) (by decide)
  let h3 := wJ h2 50 (setF (h2.2.2.1 50) 0 4 (fun _ => (0 : Int64)))
  have l3 : LAY h3 := l2
  have fi2 : f_J7_fill_d0a16 h3 49 (0 : Int64) = some (wJ h3 49 (setF (h3.2.2.1 49) 0 96 (fun _ => (0 : Int64)))) := fill_JJ (lay_kd l3 49 (by decide)) (lay_ln l3 49 (by decide)) (by decide)
  let h4 := wJ h3 49 (setF (h3.2.2.1 49) 0 96 (fun _ => (0 : Int64)))
  have f4 : FR h2 h4 [] [49, 50] [] [] := (FR.wJ (by decide)).tr (FR.wJ (by decide))
  have l4 : LAY h4 := l2
  have s4 := cs_fr f4 s2
  have z50 : ∀ u, u < 256 → rBit h4 50 0 u = false := fun u hu => by
    have e : h4.2.2.1 50 (0 + u / 64) = 0 := by
      show (wJ (wJ h2 50 (setF (h2.2.2.1 50) 0 4 (fun _ => (0 : Int64)))) 49 (setF (h3.2.2.1 49) 0 96 (fun _ => (0 : Int64)))).2.2.1 50 (0 + u / 64) = 0
      rw [wJ_n (by decide), wJ_s, setF_in (by omega)]
    unfold rBit
    rw [e, show (0 : Int64).toBitVec = 0#64 from rfl, BitVec.getLsbD_zero]
  have z49 : ∀ v u, v < 24 → u < 256 → rBit h4 49 (4 * v) u = false := fun v u hv hu => by
    have e : h4.2.2.1 49 (4 * v + u / 64) = 0 := by
      show (wJ h3 49 (setF (h3.2.2.1 49) 0 96 (fun _ => (0 : Int64)))).2.2.1 49 (4 * v + u / 64) = 0
      rw [wJ_s, setF_in0 (by omega)]
    unfold rBit
    rw [e, show (0 : Int64).toBitVec = 0#64 from rfl, BitVec.getLsbD_zero]
  have r6 : h2.2.2.2 42 6 = some c := by rw [f2.2.1]; exact h6
  have q42 : h2.2.1 42 7 = nI 1 := by
    rw [f2.I 42 (by simp <;> omega) (by decide) (by decide)]
    exact rI_eq
  have e5 : ∃ h', f_X2_makeWorldsOnce_l42 42 (nI 0) h4 = some h' ∧ FR h4 h' [] [49, 50] [] [] ∧ (∀ u, u < 256 → rBit h' 50 0 u = (decide (u < A 2) && cnP A Bv u)) ∧ ∀ v u, v < A 1 → u < 256 → rBit h' 49 (4 * v) u = (decide (u < A 2) && (cnP A Bv u && vlB A v u)) := by
    refine forI (fun j (t : Int32 × aH) => ∃ g, t = (nI j, g) ∧ FR h4 g [] [49, 50] [] [] ∧ (∀ u, u < 256 → rBit g 50 0 u = (decide (u < j) && cnP A Bv u)) ∧ ∀ v u, v < A 1 → u < 256 → rBit g 49 (4 * v) u = (decide (u < j) && (cnP A Bv u && vlB A v u))) _ (A 2) (by omega) ⟨h4, rfl, FR.rf, fun u hu => by rw [z50 u hu, decide_eq_false (by omega), Bool.false_and], fun v u hv hu => by rw [z49 v u (by omega) hu, decide_eq_false (by omega), Bool.false_and]⟩ ?_ ?_
    · rintro j _ hj ⟨g, rfl, fg, i1, i2⟩
      have lg := fg.lay l4
      have sg := cs_fr fg s4
      have g6 : g.2.2.2 42 6 = some c := by rw [fg.2.1]; exact r6
      have gI' : ∀ y, y ≠ 0 → y ≠ 113 → g.2.1 y = h2.2.1 y := fun y y0 y1 => (fg.I y (by simp) y0 y1).trans (f4.I y (by simp) y0 y1)
      have g14 : g.2.1 c 14 = nI (A 2) := by rw [gI' c (by omega) (by omega)]; exact w2
      have g9 : g.2.1 (c + 9) j = nI (if cnP A Bv j = true then wtN A j else 0) := by rw [gI' (c + 9) (by omega) (by omega)]; exact (w5 j hj).1
      have wl := wtN_le hw (w := j)
      have sh : j >>> 6 = j / 64 := by rw [Nat.shiftRight_eq_div_pow]
      have an : j &&& 63 = j % 64 := Nat.and_two_pow_sub_one_eq_mod j 6
      cases hp : cnP A Bv j with
      | false =>
        rw [hp, if_neg (by decide)] at g9
        refine ⟨(nI (j + 1), g), by simp (disch := first | assumption | omega | decide | ((repeat first | apply lyI | apply lyJ | apply lywI | apply lywJ | apply csI | apply csJ | apply cswI | apply cswJ); assumption)) only [f_X2_makeWorldsOnce_b42, f_X2_makeWorldsOnce_j131, f_X1_canBe, SR, SC, LI, ↓li_m1, nI_add, pk_mul, nn_sub, nn_m1, nn_div, nn_rem, nn_nz, nn_mod, nJ_l, lN_add, lN_mul, nn_tb1, nI_bt, nn_and, nn_or, nn_xor, nn_shr, nn_1shl, nn_31, il_p, il_n, it_p, it_n, ie_p, ie_n, ie_b, ie_b1, ie_m, ie_mm, it_m, it_m0, il_m0, bI_rZ, Option.bind_some, bd2_some, Nat.add_zero, Nat.zero_add, if_true, if_false, Bool.false_eq_true, eq_self, hI_R, hJ_R, ng_t, ng_e, g6, g14, g9], g, rfl, fg, fun u hu => ?_, fun v u hv hu => ?_⟩
        · rw [i1 u hu]
          by_cases hy : u = j
          · rw [hy, hp, Bool.and_false, Bool.and_false]
          · rw [show decide (u < j + 1) = decide (u < j) from by rw [decide_eq_decide]; omega]
        · rw [i2 v u hv hu]
          by_cases hy : u = j
          · rw [hy, hp, Bool.false_and, Bool.and_false, Bool.and_false]
          · rw [show decide (u < j + 1) = decide (u < j) from by rw [decide_eq_decide]; omega]
      | true =>
        rw [hp, if_pos rfl] at g9
        let g1 := hJ g 50 (0 + j / 64) (g.2.2.1 50 (0 + j / 64) ||| ((1 : Int64) <<< ((nI (j % 64)).toInt64 &&& 63)))
        have fg1 : FR g g1 [] [50] [] [] := FR.hJ (by decide)
        have lg1 : LAY g1 := lg
        have sg1 : CS g1 c := sg
        have g12 : g1.2.1 c 12 = nI (A 0) := by
          show g.2.1 c 12 = _
          rw [gI' c (by omega) (by omega), w1 12 (by decide) (by decide), e1c]
          exact e12
        obtain ⟨g2, e2', f2', b2'⟩ := x_vals (h := g1) lg1 sg1 g6 hw (j := j) (by omega) g12 (fun f hf => by
          obtain ⟨y1, y2⟩ := ef f hf
          have q5 : g1.2.1 (c + 5) = h.2.1 (c + 5) := by
            show g.2.1 (c + 5) = _
            rw [gI' (c + 5) (by omega) (by omega), f2.I (c + 5) (by simp <;> omega) (by omega) (by omega), e1I 5 (by decide)]
          have q6 : g1.2.1 (c + 6) f = nI (strd A f) := by
            show g.2.1 (c + 6) f = _
            rw [gI' (c + 6) (by omega) (by omega)]
            exact w4 f hf
          rw [q5]
          exact ⟨y1, y2, q6⟩)
        have e2'' : f_X2_makeWorldsOnce_l87 42 (nI j) ((1 : Int64) <<< ((nI (j % 64)).toInt64 &&& 63)) (nI 0) (hJ g 50 (j / 64) (g.2.2.1 50 (j / 64) ||| ((1 : Int64) <<< ((nI (j % 64)).toInt64 &&& 63)))) = some g2 := by
          have : g1 = hJ g 50 (j / 64) (g.2.2.1 50 (j / 64) ||| ((1 : Int64) <<< ((nI (j % 64)).toInt64 &&& 63))) := by
            show hJ g 50 (0 + j / 64) (g.2.2.1 50 (0 + j / 64) ||| ((1 : Int64) <<< ((nI (j % 64)).toInt64 &&& 63))) = _
            rw [Nat.zero_add]
          rw [← this]
          exact e2'
        have lg2 := f2'.lay lg1
        refine ⟨(nI (j + 1), g2), by simp (disch := first | assumption | omega | decide | ((repeat first | apply lyI | apply lyJ | apply lywI | apply lywJ | apply csI | apply csJ | apply cswI | apply cswJ); assumption)) only [f_X2_makeWorldsOnce_b42, f_X2_makeWorldsOnce_j131, f_X1_canBe, SR, SC, LI, ↓li_m1, nI_add, pk_mul, nn_sub, nn_m1, nn_div, nn_rem, nn_nz, nn_mod, lN_add, lN_mul, nn_tb1, nI_bt, nn_and, nn_or, nn_xor, nn_shr, nn_1shl, nn_31, il_p, il_n, it_p, it_n, ie_p, ie_n, ie_b, ie_b1, ie_m, ie_mm, it_m, it_m0, il_m0, bI_rZ, Option.bind_some, bd2_some, Nat.add_zero, Nat.zero_add, if_true, if_false, Bool.false_eq_true, eq_self, hI_R, hJ_R, ng_t, ng_e, g6, g14, g9, sh, an, e2''], g2, rfl, (fg.tr (fg1.mono (by decide) (by decide) (by decide) (by decide))).tr (f2'.mono (by decide) (by decide) (by decide) (by decide)), fun u hu => ?_, fun v u hv hu => ?_⟩
        · have q : rBit g2 50 0 u = rBit g1 50 0 u := by unfold rBit; rw [f2'.J 50 (by decide)]
          rw [q, rb_set (by omega) hu (Or.inl rfl), i1 u hu, decide_eq_true rfl, Bool.true_and]
          by_cases hy : u = j
          · subst hy
            rw [hp, decide_eq_true rfl, Bool.or_true, decide_eq_true (by omega)]
            rfl
          · rw [decide_eq_false hy, Bool.or_false, show decide (u < j + 1) = decide (u < j) from by rw [decide_eq_decide]; omega]
        · rw [b2' v u (by omega) hu, rb_ne (by decide), i2 v u hv hu, vf_any hw vf hv]
          by_cases hy : u = j
          · subst hy
            rw [hp, decide_eq_true rfl, decide_eq_false (Nat.lt_irrefl u), decide_eq_true (by omega)]
            rfl
          · rw [decide_eq_false hy, Bool.false_and, Bool.or_false, show decide (u < j + 1) = decide (u < j) from by rw [decide_eq_decide]; omega]
    · rintro _ ⟨g, rfl, fg, i1, i2⟩
      have lg := fg.lay l4
      have sg := cs_fr fg s4
      have g6 : g.2.2.2 42 6 = some c := by rw [fg.2.1]; exact r6
      have g14 : g.2.1 c 14 = nI (A 2) := by
        rw [fg.I c (by simp) (by omega) (by omega), f4.I c (by simp) (by omega) (by omega)]
        exact w2
      exact ⟨g, by simp (disch := first | assumption | omega | decide | ((repeat first | apply lyI | apply lyJ | apply lywI | apply lywJ | apply csI | apply csJ | apply cswI | apply cswJ); assumption)) only [f_X2_makeWorldsOnce_b42, SR, SC, LI, ↓li_m1, nI_add, pk_mul, nn_sub, nn_m1, nn_div, nn_rem, nn_nz, nn_mod, nJ_l, lN_add, lN_mul, nn_tb1, nI_bt, nn_and, nn_or, nn_xor, nn_shr, nn_1shl, nn_31, il_p, il_n, it_p, it_n, ie_p, ie_n, ie_b, ie_b1, ie_m, ie_mm, it_m, it_m0, il_m0, bI_rZ, Option.bind_some, bd2_some, Nat.add_zero, Nat.zero_add, if_true, if_false, Bool.false_eq_true, eq_self, hI_R, hJ_R, ng_t, ng_e, g6, g14], fg, i1, i2⟩
  obtain ⟨h5, e5, f5, b50, b49⟩ := e5
  have cnl : ∀ u, cnP A Bv u = true → u < A 2 := fun u hu => by
    unfold cnP at hu
    rw [Bool.and_eq_true, decide_eq_true_eq] at hu
    exact hu.1
  have hI5 : ∀ y, y ≠ 0 → y ≠ 113 → h5.2.1 y = h2.2.1 y := fun y y0 y1 => (f5.I y (by simp) y0 y1).trans (f4.I y (by simp) y0 y1)
  have e2' : f_X1_makeWorlds (hI h 42 7 (bI true)) c 48 = some h2 := e2
  have fi2' : f_J7_fill_d0a16 (wJ h2 50 (setF (h2.2.2.1 50) 0 4 (fun _ => (0 : Int64)))) 49 (0 : Int64) = some h4 := fi2
  refine ⟨h5, ?_, ((f1.mono (by simp) (by simp) (by simp) (by simp)).tr (f2.mono (by intro x hx; simp at hx ⊢; omega) (by simp) (by simp) (by simp))).tr ((f4.tr f5).mono (by simp) (by simp) (by simp) (by simp)), fun k k1 k2 => ?_, ?_, ?_, ?_, fun f hf => ?_, fun w hw' => ?_, fun w hw' => ?_, fun v w hv hw' => ?_⟩
  · simp (disch := first | assumption | omega | decide | ((repeat first | apply lyI | apply lyJ | apply lywI | apply lywJ | apply csI | apply csJ | apply cswI | apply cswJ); assumption)) only [f_X2_makeWorldsOnce, SR, SC, LI, ↓li_m1, nI_add, pk_mul, nn_sub, nn_m1, nn_div, nn_rem, nn_nz, nn_mod, nJ_l, lN_add, lN_mul, nn_tb1, nI_bt, nn_and, nn_or, nn_xor, nn_shr, nn_1shl, nn_31, il_p, il_n, it_p, it_n, ie_p, ie_n, ie_b, ie_b1, ie_m, ie_mm, it_m, it_m0, il_m0, bI_rZ, Option.bind_some, bd2_some, Nat.add_zero, Nat.zero_add, if_true, if_false, Bool.false_eq_true, eq_self, hI_R, hJ_R, ng_t, ng_e, h7, h6, e2', fi1, fi2', e5]
  · rw [hI5 c (by omega) (by omega), w1 k k1 k2, e1c]
  · rw [hI5 c (by omega) (by omega)]
    exact w2
  · rw [hI5 42 (by decide) (by decide)]
    exact q42
  · rw [hI5 c (by omega) (by omega)]
    exact w3
  · rw [hI5 (c + 6) (by omega) (by omega)]
    exact w4 f hf
  · rw [hI5 (c + 9) (by omega) (by omega), hI5 (c + 10) (by omega) (by omega)]
    exact w5 w hw'
  · rw [b50 w hw']
    cases hp : cnP A Bv w
    · rw [Bool.and_false]
    · rw [decide_eq_true (cnl w hp)]
      rfl
  · rw [b49 v w hv hw']
    cases hp : cnP A Bv w
    · rw [Bool.false_and, Bool.and_false]
    · rw [decide_eq_true (cnl w hp), Bool.true_and]
