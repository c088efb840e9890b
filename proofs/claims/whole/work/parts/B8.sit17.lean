/-! ===== sit ===== -/
theorem hR_self {h : aH} {a k : Nat} : hR h a k (h.2.2.2 a k) = h := by
  have : up2 h.2.2.2 a k (h.2.2.2 a k) = h.2.2.2 := by
    funext i j
    unfold up2 va_up
    by_cases h1 : i = a
    · subst h1
      rw [if_pos rfl]
      by_cases h2 : j = k
      · rw [if_pos h2, h2]
      · rw [if_neg h2]
    · rw [if_neg h1]
  unfold hR
  rw [this]
theorem hR_hR {h : aH} {a k : Nat} {x y : Option Nat} : hR (hR h a k x) a k y = hR h a k y := by
  have : up2 (up2 h.2.2.2 a k x) a k y = up2 h.2.2.2 a k y := by
    funext i j
    unfold up2 va_up
    by_cases h1 : i = a
    · rw [if_pos h1, if_pos h1]
      by_cases h2 : j = k
      · rw [if_pos h2, if_pos h2]
      · rw [if_neg h2, if_neg h2, if_pos rfl, if_neg h2]
    · rw [if_neg h1, if_neg h1, if_neg h1]
  show (h.1, h.2.1, h.2.2.1, up2 (up2 h.2.2.2 a k x) a k y) = _
  rw [this]
  rfl
theorem fr_R {h g : aH} {a k : Nat} {y : Option Nat} {cI cJ f0 f1 : List Nat} (f : FR h g cI cJ f0 f1) : FR (hR h a k y) (hR g a k y) cI cJ f0 f1 := by
  refine ⟨f.1, ?_, f.2.2.1, f.2.2.2.1, f.2.2.2.2.1, f.2.2.2.2.2⟩
  show up2 g.2.2.2 a k y = up2 h.2.2.2 a k y
  rw [f.2.1]
theorem ro_R {h : aH} {x : Option Nat} {A : Nat → Nat} {P : Nat → Bool} {Q : Nat → Nat → Bool} {S : Nat → Nat → Nat → Nat → Nat} {n d : Nat} {M : Nat → Nat → Nat} (ro : RO h A P Q S n d M) : RO (hR h 68 4 x) A P Q S n d M := ⟨lay_R ro.1, ro.2⟩
theorem lc_neg {x : Int64} {y : Int64} (h : x < y) : lg_cmp x y < 0 := by
  unfold lg_cmp
  rw [if_neg (show ¬ y < x from Int64.not_lt.mpr (Int64.le_of_lt h)), if_neg (show ¬ x = y from fun e => by subst e; exact absurd h Int64.lt_irrefl)]
  decide
theorem ng_64 {x : Int32} (h : x < nI 0) : x.toInt64 < (0 : Int64) := by
  have := (Int32.toInt64_lt (a := x) (b := nI 0)).mpr h
  exact this
theorem isF_n {h : aH} {x : Int32} {lo hi : Int64} (hx : x < nI 0) (hlo : (0 : Int64) ≤ lo) : f_X12_isFrom h x.toInt64 lo hi = some (nI 0) := by
  unfold f_X12_isFrom
  rw [if_pos (lc_neg (Int64.lt_of_lt_of_le (ng_64 hx) hlo))]
  rfl
theorem lcn {a b : Nat} (ha : a < 2 ^ 63) (hb : b < 2 ^ 63) : lg_cmp (lN a) (lN b) < 0 ↔ a < b := by
  constructor
  · intro h
    rcases Nat.lt_or_ge a b with u | u
    · exact u
    · rcases Nat.lt_or_ge b a with v | v
      · have := (lcmp_pos ha hb).mpr v
        exact absurd (Int32.lt_trans (show nI 0 < lg_cmp (lN a) (lN b) from this) h) (by decide)
      · obtain rfl : a = b := by omega
        unfold lg_cmp at h
        rw [if_neg (Int64.lt_irrefl), if_pos rfl] at h
        exact absurd h (by decide)
  · intro h
    exact lc_neg ((pk_lLT ha hb).mpr h)
theorem isF_p {h : aH} {v lo hi : Nat} (hv : v < 2147483648) (hlo : lo < 2147483648) (hhi : hi < 2147483648) : f_X12_isFrom h (nI v).toInt64 (lN lo) (lN hi) = some (bI (decide (lo ≤ v) && decide (v ≤ hi))) := by
  rw [nJ_l hv]
  unfold f_X12_isFrom
  rcases Nat.lt_or_ge v lo with u | u
  · rw [if_pos ((lcn (by omega) (by omega)).mpr u), decide_eq_false (by omega)]
    rfl
  · rw [if_neg (fun e => by have := (lcn (by omega) (by omega)).mp e; omega), decide_eq_true u]
    rcases Nat.lt_or_ge hi v with u2 | u2
    · rw [if_pos (show (0 : Int32) < _ from (lcmp_pos (by omega) (by omega)).mpr u2), decide_eq_false (by omega)]
      rfl
    · rw [if_neg (fun e => by have := (lcmp_pos (a := v) (b := hi) (by omega) (by omega)).mp e; omega), decide_eq_true u2]
      rfl
/-- plans of both sides: none, or rows and steps that say the same -/
def PRo (h : aH) (o : Nat) (K : Nat → Nat → Nat) (N : Nat) : Prop := h.2.1 114 (o + 7) = nI N ∧ ∀ k i, k < N → i < 4 → h.2.1 114 (o + (148 + 4 * k + i)) = nI (K k i)
def PLo (h : aH) (p o : Nat) (A : Nat → Nat) : Prop := (h.2.1 p 7 = nI 0 ∧ h.2.1 114 (o + 7) = m1) ∨ ∃ K N W F G B ns, h.2.1 p 7 = nI 1 ∧ PC h p W F G B ns ∧ PW A W F G B ns ∧ PRo h o K N ∧ PK A K N W F G B ns
theorem pr_0 {h : aH} {K : Nat → Nat → Nat} {N : Nat} (pr : PRo h 0 K N) : PR h K N := by
  refine ⟨?_, fun k i hk hi => ?_⟩
  · have := pr.1
    rwa [Nat.zero_add] at this
  · have := pr.2 k i hk hi
    rwa [Nat.zero_add] at this
def SCI : List Nat := [13, 60, 61, 62, 63, 64, 65, 66, 67, 68, 69, 70, 71, 72, 73, 74, 75, 76, 129, 130, 131, 132, 133, 134, 135]
def SI (h : aH) (f g : aH → Option (Int32 × aH)) : Prop := ∃ r h1 h2 x, f h = some (r, h1) ∧ g h1 = some (r, h2) ∧ FR (hR h 68 4 x) h2 SCI [] [16, 17] [3, 39, 40, 41, 45] ∧ ST h2 ∧ SA h2
theorem sa_fr {h h' : aH} {cI cJ f0 f1 : List Nat} (hf : FR h h' cI cJ f0 f1) (h1 : 13 ∉ cI) (h2 : 135 ∉ cI) (h3 : 16 ∉ f0) (h4 : 45 ∉ f1) (sa : SA h) : SA h' := by
  unfold SA
  rw [hf.2.2.2.2.1 16 h3, hf.2.2.2.2.2 45 h4, hf.I 13 h1 (by decide) (by decide), hf.I 135 h2 (by decide) (by decide)]
  exact sa
theorem si_no {h : aH} (sa : SA h) {f g : aH → Option (Int32 × aH)} {w : Int32} (e1 : f h = some (m1, hI h 0 17 w)) (e2 : g (hI h 0 17 w) = some (m1, hI (hI h 0 17 w) 113 3 w)) : SI h f g := by
  have ff : FR h (hI (hI h 0 17 w) 113 3 w) [] [] [17] [3] := (fr_0 (by decide)).tr (fr_1 (by decide))
  refine ⟨m1, _, _, h.2.2.2 68 4, e1, e2, ?_, both_st w, sa_fr ff (by decide) (by decide) (by decide) (by decide) sa⟩
  rw [hR_self]
  exact ff.mono (by decide) (by decide) (by decide) (by decide)
theorem x_dish {h : aH} (hl : LAY h) {c : Nat} (hs : CS h c) (hf : h.2.2.2 68 4 = some c) {A : Nat → Nat} (b4 : A 4 ≤ 4) (e4 : h.2.1 c 17 = nI (A 4)) {tk : Nat → Nat} (e67 : ∀ v, v < A 4 → h.2.1 67 v = nI (tk v)) (htk : ∀ v, v < A 4 → tk v < 4) : f_X10_dishonest h 66 = some (nI (dhN tk (A 4))) := by
  have e1 : f_X10_dishonest_l4 h 66 (nI 0) (nI 0) = some (nI (dhN tk (A 4))) := by
    refine for0 (body := fun zz : Int32 × Int32 => f_X10_dishonest_b4 h 66 zz.1 zz.2) (fun j => (nI (dhN tk j), nI j)) (A 4) (e := nI (dhN tk (A 4))) (rfl) (by omega) (fun j hj => ?_) ?_
    · have kt := e67 j hj
      have tl := htk j hj
      by_cases hz : tk j = 0
      · have nx : dhN tk (j + 1) = dhN tk j := by
          show dhN tk j ||| (if tk j = 0 then 0 else 2 ^ j) = _
          rw [if_pos hz, Nat.or_zero]
        rw [hz] at kt
        rw [nx]
        simp (disch := first | assumption | omega | decide | ((repeat first | apply lyI | apply lyJ | apply lywI | apply lywJ | apply csI | apply csJ | apply cswI | apply cswJ); assumption)) only [f_X10_dishonest_b4, f_X10_dishonest_j33, SG, SH68, SC, LI, ↓li_m1, nI_add, pk_mul, nn_sub, nn_m1, nn_div, nn_rem, nn_nz, nn_mod, nJ_l, lN_add, lN_mul, nn_tb1, nI_bt, nn_and, nn_or, nn_xor, nn_shr, nn_1shl, nn_31, il_p, il_n, it_p, it_n, ie_p, ie_n, ie_b, ie_b1, ie_m, ie_mm, it_m, it_m0, il_m0, bI_rZ, Option.bind_some, bd2_some, Nat.add_zero, Nat.zero_add, if_true, if_false, Bool.false_eq_true, eq_self, hI_R, hJ_R, ng_t, ng_e, hf, e4, kt]
      · have nx : dhN tk (j + 1) = dhN tk j ||| 2 ^ j := by
          show dhN tk j ||| (if tk j = 0 then 0 else 2 ^ j) = _
          rw [if_neg hz]
        rw [nx]
        simp (disch := first | assumption | omega | decide | ((repeat first | apply lyI | apply lyJ | apply lywI | apply lywJ | apply csI | apply csJ | apply cswI | apply cswJ); assumption)) only [f_X10_dishonest_b4, f_X10_dishonest_j33, SG, SH68, SC, LI, ↓li_m1, nI_add, pk_mul, nn_sub, nn_m1, nn_div, nn_rem, nn_nz, nn_mod, nJ_l, lN_add, lN_mul, nn_tb1, nI_bt, nn_and, nn_or, nn_xor, nn_shr, nn_1shl, nn_31, il_p, il_n, it_p, it_n, ie_p, ie_n, ie_b, ie_b1, ie_m, ie_mm, it_m, it_m0, il_m0, bI_rZ, Option.bind_some, bd2_some, Nat.add_zero, Nat.zero_add, if_true, if_false, Bool.false_eq_true, eq_self, hI_R, hJ_R, ng_t, ng_e, hf, e4, kt]
    · simp (disch := first | assumption | omega | decide | ((repeat first | apply lyI | apply lyJ | apply lywI | apply lywJ | apply csI | apply csJ | apply cswI | apply cswJ); assumption)) only [f_X10_dishonest_b4, f_X10_dishonest_j33, SG, SH68, SC, LI, ↓li_m1, nI_add, pk_mul, nn_sub, nn_m1, nn_div, nn_rem, nn_nz, nn_mod, nJ_l, lN_add, lN_mul, nn_tb1, nI_bt, nn_and, nn_or, nn_xor, nn_shr, nn_1shl, nn_31, il_p, il_n, it_p, it_n, ie_p, ie_n, ie_b, ie_b1, ie_m, ie_mm, it_m, it_m0, il_m0, bI_rZ, Option.bind_some, bd2_some, Nat.add_zero, Nat.zero_add, if_true, if_false, Bool.false_eq_true, eq_self, hI_R, hJ_R, ng_t, ng_e, hf, e4]
  simp (disch := first | assumption | omega | decide | ((repeat first | apply lyI | apply lyJ | apply lywI | apply lywJ | apply csI | apply csJ | apply cswI | apply cswJ); assumption)) only [f_X10_dishonest, LI, ↓li_m1, nI_add, pk_mul, nn_sub, nn_m1, nn_div, nn_rem, nn_nz, nn_mod, nJ_l, lN_add, lN_mul, nn_tb1, nI_bt, nn_and, nn_or, nn_xor, nn_shr, nn_1shl, nn_31, il_p, il_n, it_p, it_n, ie_p, ie_n, ie_b, ie_b1, ie_m, ie_mm, it_m, it_m0, il_m0, bI_rZ, Option.bind_some, bd2_some, Nat.add_zero, Nat.zero_add, if_true, if_false, Bool.false_eq_true, eq_self, hI_R, hJ_R, ng_t, ng_e, e1]
theorem c_can {h : aH} (hl : LAY h) {c p : Nat} (hs : CS h c) (hn : h.2.2.2 0 11 = some c) (hp14 : p = 14 ∨ p = 20) (hp : h.2.2.2 0 12 = some p) {m : Nat} (hm : m ≤ 256) (e15 : h.2.1 c 15 = nI m) {b : Bool} (e7 : h.2.1 p 7 = bI b) : f_X11_canSit h 0 = some (bI (b && decide (0 < m))) := by
  rcases hp14 with rfl | rfl
  · cases b
    · rw [bI_f] at e7
      simp (disch := first | assumption | omega | decide | ((repeat first | apply lyI | apply lyJ | apply lywI | apply lywJ | apply csI | apply csJ | apply cswI | apply cswJ); assumption)) only [f_X11_canSit, S0, SP14, SC, LI, ↓li_m1, nI_add, pk_mul, nn_sub, nn_m1, nn_div, nn_rem, nn_nz, nn_mod, nJ_l, lN_add, lN_mul, nn_tb1, nI_bt, nn_and, nn_or, nn_xor, nn_shr, nn_1shl, nn_31, il_p, il_n, it_p, it_n, ie_p, ie_n, ie_b, ie_b1, ie_m, ie_mm, it_m, it_m0, il_m0, bI_rZ, Option.bind_some, bd2_some, Nat.add_zero, Nat.zero_add, if_true, if_false, Bool.false_eq_true, eq_self, hI_R, hJ_R, ng_t, ng_e, hp, hn, e7, Bool.false_and]
      rfl
    · rw [bI_t] at e7
      rcases Nat.eq_zero_or_pos m with u | u
      · simp (disch := first | assumption | omega | decide | ((repeat first | apply lyI | apply lyJ | apply lywI | apply lywJ | apply csI | apply csJ | apply cswI | apply cswJ); assumption)) only [f_X11_canSit, S0, SP14, SC, LI, ↓li_m1, nI_add, pk_mul, nn_sub, nn_m1, nn_div, nn_rem, nn_nz, nn_mod, nJ_l, lN_add, lN_mul, nn_tb1, nI_bt, nn_and, nn_or, nn_xor, nn_shr, nn_1shl, nn_31, il_p, il_n, it_p, it_n, ie_p, ie_n, ie_b, ie_b1, ie_m, ie_mm, it_m, it_m0, il_m0, bI_rZ, Option.bind_some, bd2_some, Nat.add_zero, Nat.zero_add, if_true, if_false, Bool.false_eq_true, eq_self, hI_R, hJ_R, ng_t, ng_e, hp, hn, e7, e15, Bool.true_and, decide_eq_false (show ¬ 0 < m by omega)]
        rfl
      · simp (disch := first | assumption | omega | decide | ((repeat first | apply lyI | apply lyJ | apply lywI | apply lywJ | apply csI | apply csJ | apply cswI | apply cswJ); assumption)) only [f_X11_canSit, S0, SP14, SC, LI, ↓li_m1, nI_add, pk_mul, nn_sub, nn_m1, nn_div, nn_rem, nn_nz, nn_mod, nJ_l, lN_add, lN_mul, nn_tb1, nI_bt, nn_and, nn_or, nn_xor, nn_shr, nn_1shl, nn_31, il_p, il_n, it_p, it_n, ie_p, ie_n, ie_b, ie_b1, ie_m, ie_mm, it_m, it_m0, il_m0, bI_rZ, Option.bind_some, bd2_some, Nat.add_zero, Nat.zero_add, if_true, if_false, Bool.false_eq_true, eq_self, hI_R, hJ_R, ng_t, ng_e, hp, hn, e7, e15, Bool.true_and, decide_eq_true u]
        rfl
  · cases b
    · rw [bI_f] at e7
      simp (disch := first | assumption | omega | decide | ((repeat first | apply lyI | apply lyJ | apply lywI | apply lywJ | apply csI | apply csJ | apply cswI | apply cswJ); assumption)) only [f_X11_canSit, S0, SP20, SC, LI, ↓li_m1, nI_add, pk_mul, nn_sub, nn_m1, nn_div, nn_rem, nn_nz, nn_mod, nJ_l, lN_add, lN_mul, nn_tb1, nI_bt, nn_and, nn_or, nn_xor, nn_shr, nn_1shl, nn_31, il_p, il_n, it_p, it_n, ie_p, ie_n, ie_b, ie_b1, ie_m, ie_mm, it_m, it_m0, il_m0, bI_rZ, Option.bind_some, bd2_some, Nat.add_zero, Nat.zero_add, if_true, if_false, Bool.false_eq_true, eq_self, hI_R, hJ_R, ng_t, ng_e, hp, hn, e7, Bool.false_and]
      rfl
    · rw [bI_t] at e7
      rcases Nat.eq_zero_or_pos m with u | u
      · simp (disch := first | assumption | omega | decide | ((repeat first | apply lyI | apply lyJ | apply lywI | apply lywJ | apply csI | apply csJ | apply cswI | apply cswJ); assumption)) only [f_X11_canSit, S0, SP20, SC, LI, ↓li_m1, nI_add, pk_mul, nn_sub, nn_m1, nn_div, nn_rem, nn_nz, nn_mod, nJ_l, lN_add, lN_mul, nn_tb1, nI_bt, nn_and, nn_or, nn_xor, nn_shr, nn_1shl, nn_31, il_p, il_n, it_p, it_n, ie_p, ie_n, ie_b, ie_b1, ie_m, ie_mm, it_m, it_m0, il_m0, bI_rZ, Option.bind_some, bd2_some, Nat.add_zero, Nat.zero_add, if_true, if_false, Bool.false_eq_true, eq_self, hI_R, hJ_R, ng_t, ng_e, hp, hn, e7, e15, Bool.true_and, decide_eq_false (show ¬ 0 < m by omega)]
        rfl
      · simp (disch := first | assumption | omega | decide | ((repeat first | apply lyI | apply lyJ | apply lywI | apply lywJ | apply csI | apply csJ | apply cswI | apply cswJ); assumption)) only [f_X11_canSit, S0, SP20, SC, LI, ↓li_m1, nI_add, pk_mul, nn_sub, nn_m1, nn_div, nn_rem, nn_nz, nn_mod, nJ_l, lN_add, lN_mul, nn_tb1, nI_bt, nn_and, nn_or, nn_xor, nn_shr, nn_1shl, nn_31, il_p, il_n, it_p, it_n, ie_p, ie_n, ie_b, ie_b1, ie_m, ie_mm, it_m, it_m0, il_m0, bI_rZ, Option.bind_some, bd2_some, Nat.add_zero, Nat.zero_add, if_true, if_false, Bool.false_eq_true, eq_self, hI_R, hJ_R, ng_t, ng_e, hp, hn, e7, e15, Bool.true_and, decide_eq_true u]
        rfl
theorem r_can {h : aH} (hl : LAY h) {A : Nat → Nat} {P : Nat → Bool} {Q : Nat → Nat → Bool} (hc : CM h A P Q) (hw : WF A) {b : Bool} {N : Nat} (hN : N ≤ 60) (e7 : h.2.1 114 7 = if b = true then nI N else m1) : f_X12_canSit h 113 = some (bI (b && decide (0 < cntB P (A 2)))) := by
  obtain ⟨b0, b1, b2l, b2, b3, b4⟩ := wf_b hw
  obtain ⟨c0, c1, c2, c3, c4, cA⟩ := cm_e hc
  have r := r_size hl hc hw
  have cle := cntB_le P (A 2)
  cases b
  · rw [if_neg (by decide)] at e7
    simp (disch := first | assumption | omega | decide | ((repeat first | apply lyI | apply lyJ | apply lywI | apply lywJ | apply csI | apply csJ | apply cswI | apply cswJ); assumption)) only [f_X12_canSit, SM, LI, ↓li_m1, nI_add, pk_mul, nn_sub, nn_m1, nn_div, nn_rem, nn_nz, nn_mod, nJ_l, lN_add, lN_mul, nn_tb1, nI_bt, nn_and, nn_or, nn_xor, nn_shr, nn_1shl, nn_31, il_p, il_n, it_p, it_n, ie_p, ie_n, ie_b, ie_b1, ie_m, ie_mm, it_m, it_m0, il_m0, bI_rZ, Option.bind_some, bd2_some, Nat.add_zero, Nat.zero_add, if_true, if_false, Bool.false_eq_true, eq_self, hI_R, hJ_R, ng_t, ng_e, e7, Bool.false_and]
    rfl
  · rw [if_pos rfl] at e7
    rcases Nat.eq_zero_or_pos (cntB P (A 2)) with u | u
    · simp (disch := first | assumption | omega | decide | ((repeat first | apply lyI | apply lyJ | apply lywI | apply lywJ | apply csI | apply csJ | apply cswI | apply cswJ); assumption)) only [f_X12_canSit, SM, LI, ↓li_m1, nI_add, pk_mul, nn_sub, nn_m1, nn_div, nn_rem, nn_nz, nn_mod, nJ_l, lN_add, lN_mul, nn_tb1, nI_bt, nn_and, nn_or, nn_xor, nn_shr, nn_1shl, nn_31, il_p, il_n, it_p, it_n, ie_p, ie_n, ie_b, ie_b1, ie_m, ie_mm, it_m, it_m0, il_m0, bI_rZ, Option.bind_some, bd2_some, Nat.add_zero, Nat.zero_add, if_true, if_false, Bool.false_eq_true, eq_self, hI_R, hJ_R, ng_t, ng_e, e7, r, Bool.true_and, decide_eq_false (show ¬ 0 < cntB P (A 2) by omega)]
      rfl
    · simp (disch := first | assumption | omega | decide | ((repeat first | apply lyI | apply lyJ | apply lywI | apply lywJ | apply csI | apply csJ | apply cswI | apply cswJ); assumption)) only [f_X12_canSit, SM, LI, ↓li_m1, nI_add, pk_mul, nn_sub, nn_m1, nn_div, nn_rem, nn_nz, nn_mod, nJ_l, lN_add, lN_mul, nn_tb1, nI_bt, nn_and, nn_or, nn_xor, nn_shr, nn_1shl, nn_31, il_p, il_n, it_p, it_n, ie_p, ie_n, ie_b, ie_b1, ie_m, ie_mm, it_m, it_m0, il_m0, bI_rZ, Option.bind_some, bd2_some, Nat.add_zero, Nat.zero_add, if_true, if_false, Bool.false_eq_true, eq_self, hI_R, hJ_R, ng_t, ng_e, e7, r, Bool.true_and, decide_eq_true u]
      rfl
theorem x_court {p : Nat} (hp14 : p = 14 ∨ p = 20) {h : aH} {c : Nat} (hs : CS h c) {A : Nat → Nat} {P : Nat → Bool} {Q : Nat → Nat → Bool} {S : Nat → Nat → Nat → Nat → Nat} (hc : CC h c A P Q S) (hw : WF A) (hl : LAY h) (hp : cntB P (A 2) ≠ 0) {seed : Nat} (hseed : seed < 65536) {W F G B : Nat → Nat} {ns : Nat} (pc : PC h p W F G B ns) (pw : PW A W F G B ns) : ∃ h' t e, f_X10_holdCourt h 66 c p (nI seed) = some (nI e, h') ∧ FR (hR h 68 4 (some c)) h' L66 [] [] [] ∧ H8 h' c A P Q S t ∧ GM A t ∧ h'.2.1 66 2 = nI (trN A P seed) ∧ (∀ v, v < A 4 → h'.2.1 67 v = nI (tkN A seed v)) ∧ rcE A P Q S (trN A P seed) (rcS A P Q S (trN A P seed) (tkN A seed) W F G B (0, 0, M0) ns) = (e, t) := by
  rcases hp14 with rfl | rfl
  · exact x_court14 hs hc hw hl hp hseed pc pw
  · exact x_court20 hs hc hw hl hp hseed pc pw
