/-! ===== conditions: the class reads them ===== -/
theorem cp_J {h : aH} (hl : LAY h) {a b s d : Nat} (ka : kT a = 21) (kb : kT b = 21) (lb : s + 4 ≤ lT b) (la : d + 4 ≤ lT a) (s3 : s < 1000) (d3 : d < 1000) : cpJ h b (nI s) a (nI d) (nI 4) = some (wJ h a (setF (h.2.2.1 a) d 4 (fun x => h.2.2.1 b (s + x)))) := by
  have h4 : (nI 4).toNatClampNeg = 4 := rfl
  have hi : inCpD h 21 b (nI s) a (nI d) (nI 4) = true := by
    rw [inCp_iff]
    refine ⟨by rw [lay_kd hl b (by rw [kb]; decide), kb], by rw [lay_kd hl a (by rw [ka]; decide), ka], nI_pos (by omega), nI_pos (by omega), by decide, ?_, ?_⟩
    · rw [nI_clamp (by omega), h4, lay_ln hl b (by rw [kb]; decide)]
      exact lb
    · rw [nI_clamp (by omega), h4, lay_ln hl a (by rw [ka]; decide)]
      exact la
  unfold cpJ
  rw [if_pos hi, nI_clamp (by omega), nI_clamp (by omega), h4]
  rfl
def ST51 (h : aH) (o : Nat) (P S : WS) : Prop := ∀ w, w < 256 → (h.2.2.1 51 (o + w / 64)).toBitVec.getLsbD (w % 64) = (P w && S w)
def XSc (h : aH) (c : Nat) (T : Nat → Nat) (n m i : Nat) (A : Nat → Nat) (V : Nat → List Nat) (P : WS) : Prop := LC h T n m i ∧ CS h c ∧ h.2.2.2 42 6 = some c ∧ NCl h c (cA A) V ∧ (∀ w, w < 256 → (h.2.2.1 50 (w / 64)).toBitVec.getLsbD (w % 64) = P w) ∧ ∀ v w, v < A 1 → w < 256 → (h.2.2.1 49 (4 * v + w / 64)).toBitVec.getLsbD (w % 64) = (P w && vlB A v w)
theorem xs_fr {h h' : aH} {c : Nat} {T : Nat → Nat} {n m i i' : Nat} {A : Nat → Nat} {V : Nat → List Nat} {P : WS} (xs : XSc h c T n m i A V P) (f : FR h h' [4] [4, 51] [] []) (lc : LC h' T n m i') : XSc h' c T n m i' A V P := by
  obtain ⟨x1, x2, x3, x4, x5, x6⟩ := xs
  have c0 := x2.1
  refine ⟨lc, cs_fr f x2, by rw [f.2.1]; exact x3, nc_fr f x2 (by simp; omega) (by simp; omega) (by simp; omega) (by simp; omega) x4, ?_, ?_⟩
  · rw [f.J 50 (by decide)]
    exact x5
  · rw [f.J 49 (by decide)]
    exact x6
def OXc (h : aH) (T : Nat → Nat) (n m : Nat) (P : WS) (o : Nat) (x : Option (Int32 × aH)) (r : CR) : Prop := match r with
  | .inl (f, q) => f ≠ 0 ∧ f < 100 ∧ ∃ h', x = some (nI 0, h') ∧ FR h h' [4] [4, 51] [] [] ∧ FL h' f q
  | .inr (i', S) => ∃ h', x = some (nI 1, h') ∧ FR h h' [4] [4, 51] [] [] ∧ LC h' T n m i' ∧ (∀ y, y < o → h'.2.2.1 51 y = h.2.2.1 51 y) ∧ ST51 h' o P S
def OXl (h : aH) (T : Nat → Nat) (n m : Nat) (P : WS) (o : Nat) (x : Option (aH ⊕ aH)) (r : CR) : Prop := match r with
  | .inl (f, q) => f ≠ 0 ∧ f < 100 ∧ ∃ h', x = some (.inl h') ∧ FR h h' [4] [4, 51] [] [] ∧ FL h' f q
  | .inr (i', S) => ∃ h', x = some (.inr h') ∧ FR h h' [4] [4, 51] [] [] ∧ LC h' T n m i' ∧ (∀ y, y < o → h'.2.2.1 51 y = h.2.2.1 51 y) ∧ ST51 h' o P S
theorem f4_51 {h h' : aH} (f : FR h h' [4] [4] [] []) : FR h h' [4] [4, 51] [] [] := f.mono (by decide) (by decide) (by decide) (by decide)
theorem oxl_c {h g : aH} {T : Nat → Nat} {n m : Nat} {P : WS} {o : Nat} {x : Option (aH ⊕ aH)} {r : CR} (f : FR h g [4] [4, 51] [] []) (e : ∀ y, y < o → g.2.2.1 51 y = h.2.2.1 51 y) (ox : OXl g T n m P o x r) : OXl h T n m P o x r := by
  rcases r with ⟨a, q⟩ | ⟨i', S⟩
  · obtain ⟨y1, y2, h', y3, y4, y5⟩ := ox
    exact ⟨y1, y2, h', y3, f.tr y4, y5⟩
  · obtain ⟨h', y3, y4, y5, y6, y7⟩ := ox
    exact ⟨h', y3, f.tr y4, y5, fun y hy => (y6 y hy).trans (e y hy), y7⟩
theorem x_and4 {g1 : aH → Nat → Int32 → Option (Int32 × aH)} {h : aH} (hl : LAY h) {ob : Nat} (o80 : ob + 8 ≤ 84) (v1 v4 : Int32) : ∃ h', f_X2_readBoth_l79 g1 42 v1 (nI ob) (nI (ob + 4)) v4 (nI 0) h = some h' ∧ FR h h' [] [51] [] [] ∧ ∀ x, h'.2.2.1 51 x = if ob ≤ x ∧ x < ob + 4 then h.2.2.1 51 x &&& h.2.2.1 51 (x + 4) else h.2.2.1 51 x := by
  refine forI (fun j (t : Int32 × aH) => ∃ g, t = (nI j, g) ∧ FR h g [] [51] [] [] ∧ ∀ x, g.2.2.1 51 x = if ob ≤ x ∧ x < ob + j then h.2.2.1 51 x &&& h.2.2.1 51 (x + 4) else h.2.2.1 51 x) _ 4 (by decide) ⟨h, rfl, FR.rf, fun x => by rw [if_neg (by omega)]⟩ ?_ ?_
  · rintro j _ hj ⟨g, rfl, fg, i1⟩
    have lg := fg.lay hl
    have r1 : g.2.2.1 51 (ob + j) = h.2.2.1 51 (ob + j) := by rw [i1, if_neg (by omega)]
    have r2 : g.2.2.1 51 (ob + 4 + j) = h.2.2.1 51 (ob + j + 4) := by rw [i1, if_neg (by omega), show ob + 4 + j = ob + j + 4 by omega]
    refine ⟨(nI (j + 1), hJ g 51 (ob + j) (h.2.2.1 51 (ob + j) &&& h.2.2.1 51 (ob + j + 4))), ?_, _, rfl, fg.tr (FR.hJ (by decide)), fun x => ?_⟩
    · simp (disch := first | assumption | omega | decide | ((repeat first | apply lyI | apply lyJ | apply lywI | apply lywJ | apply csI | apply csJ | apply cswI | apply cswJ); assumption)) only [f_X2_readBoth_b79, SR, LI, ↓li_m1, nI_add, pk_mul, nn_sub, nn_m1, nn_div, nn_rem, nn_nz, nn_mod, nJ_l, lN_add, lN_mul, nn_tb1, nI_bt, nn_and, nn_or, nn_xor, nn_shr, nn_1shl, nn_31, il_p, il_n, it_p, it_n, ie_p, ie_n, ie_b, ie_b1, ie_m, ie_mm, it_m, it_m0, il_m0, bI_rZ, Option.bind_some, bd2_some, Nat.add_zero, Nat.zero_add, if_true, if_false, Bool.false_eq_true, eq_self, hI_R, hJ_R, ng_t, ng_e, r1, r2]
    · by_cases hx : x = ob + j
      · subst hx
        rw [rJ_eq, if_pos (by omega)]
      · rw [rJ_nk hx, i1]
        by_cases hy : ob ≤ x ∧ x < ob + j
        · rw [if_pos hy, if_pos (by omega)]
        · rw [if_neg hy, if_neg (by omega)]
  · rintro _ ⟨g, rfl, fg, i1⟩
    exact ⟨g, by simp (disch := first | assumption | omega | decide | ((repeat first | apply lyI | apply lyJ | apply lywI | apply lywJ | apply csI | apply csJ | apply cswI | apply cswJ); assumption)) only [f_X2_readBoth_b79, LI, ↓li_m1, nI_add, pk_mul, nn_sub, nn_m1, nn_div, nn_rem, nn_nz, nn_mod, nJ_l, lN_add, lN_mul, nn_tb1, nI_bt, nn_and, nn_or, nn_xor, nn_shr, nn_1shl, nn_31, il_p, il_n, it_p, it_n, ie_p, ie_n, ie_b, ie_b1, ie_m, ie_mm, it_m, it_m0, il_m0, bI_rZ, Option.bind_some, bd2_some, Nat.add_zero, Nat.zero_add, if_true, if_false, Bool.false_eq_true, eq_self, hI_R, hJ_R, ng_t, ng_e], fg, i1⟩
theorem x_bL {g1 : aH → Nat → Int32 → Option (Int32 × aH)} {c : Nat} {T : Nat → Nat} {n m : Nat} {A : Nat → Nat} {V : Nat → List Nat} {P : WS} {lv ob : Nat} (o80 : ob + 8 ≤ 84) {p : Nat → CR} (one : ∀ h i, XSc h c T n m i A V P → OXc h T n m P (ob + 4) (g1 h 42 (nI lv)) (p i)) : ∀ (gf j F : Nat) (g : aH) (i : Nat) (S : WS), j + gf = 901 → gf < F → XSc g c T n m i A V P → ST51 g ob P S → OXl g T n m P ob (whileL F (fun q : Int32 × aH => f_X2_readBoth_b39 g1 42 (nI lv) (nI ob) (nI (ob + 4)) q.1 q.2) (nI j, g)) (pBL T n p gf i S)
  | 0, j, F, g, i, S, hj, hF, xs, st => by
    obtain ⟨F', rfl⟩ := ex_s hF
    obtain rfl : j = 901 := by omega
    have e : f_X2_readBoth_b39 g1 42 (nI lv) (nI ob) (nI (ob + 4)) (nI 901) g = some (.inr (.inr g)) := by simp (disch := first | assumption | omega | decide | ((repeat first | apply lyI | apply lyJ | apply lywI | apply lywJ | apply csI | apply csJ | apply cswI | apply cswJ); assumption)) only [f_X2_readBoth_b39, LI, ↓li_m1, nI_add, pk_mul, nn_sub, nn_m1, nn_div, nn_rem, nn_nz, nn_mod, nJ_l, lN_add, lN_mul, nn_tb1, nI_bt, nn_and, nn_or, nn_xor, nn_shr, nn_1shl, nn_31, il_p, il_n, it_p, it_n, ie_p, ie_n, ie_b, ie_b1, ie_m, ie_mm, it_m, it_m0, il_m0, bI_rZ, Option.bind_some, bd2_some, Nat.add_zero, Nat.zero_add, if_true, if_false, Bool.false_eq_true, eq_self, hI_R, hJ_R, ng_t, ng_e]
    rw [wl_r e]
    exact ⟨g, rfl, FR.rf, xs.1, fun _ _ => rfl, st⟩
  | gf + 1, j, F, g, i, S, hj, hF, xs, st => by
    obtain ⟨F', rfl⟩ := ex_s hF
    have lg := xs.1.1
    have e10 : g.2.1 4 10 = nI (tcI T n i) := xs.1.2.2.1.2.1
    by_cases t : tcI T n i = 19
    · rw [t] at e10
      obtain ⟨h1, a1, f1, lc1⟩ := x_adv xs.1 (lc_lt xs.1 (by omega))
      have l1 := lc1.1
      have xs1 := xs_fr xs (f4_51 f1) lc1
      have o1 := one h1 (i + 1) xs1
      have s1 : h1.2.2.1 51 = g.2.2.1 51 := f1.J 51 (by decide)
      have e1 : pBL T n p (gf + 1) i S = (match p (i + 1) with | .inl e => .inl e | .inr (i', S') => pBL T n p gf i' (jnB 11 S S')) := if_pos t
      cases hp : p (i + 1) with
      | inl q =>
        obtain ⟨a, b⟩ := q
        rw [hp] at o1 e1
        obtain ⟨y1, y2, h', y3, y4, y5⟩ := o1
        have e : f_X2_readBoth_b39 g1 42 (nI lv) (nI ob) (nI (ob + 4)) (nI j) g = some (.inr (.inl h')) := by simp (disch := first | assumption | omega | decide | ((repeat first | apply lyI | apply lyJ | apply lywI | apply lywJ | apply csI | apply csJ | apply cswI | apply cswJ); assumption)) only [f_X2_readBoth_b39, SR, SX, LI, ↓li_m1, nI_add, pk_mul, nn_sub, nn_m1, nn_div, nn_rem, nn_nz, nn_mod, nJ_l, lN_add, lN_mul, nn_tb1, nI_bt, nn_and, nn_or, nn_xor, nn_shr, nn_1shl, nn_31, il_p, il_n, it_p, it_n, ie_p, ie_n, ie_b, ie_b1, ie_m, ie_mm, it_m, it_m0, il_m0, bI_rZ, Option.bind_some, bd2_some, Nat.add_zero, Nat.zero_add, if_true, if_false, Bool.false_eq_true, eq_self, hI_R, hJ_R, ng_t, ng_e, e10, a1, y3]
        rw [wl_r e, e1]
        exact ⟨y1, y2, h', rfl, (f4_51 f1).tr y4, y5⟩
      | inr q =>
        obtain ⟨i2, S2⟩ := q
        rw [hp] at o1 e1
        obtain ⟨h2, y3, y4, y5, y6, y7⟩ := o1
        have l2 := y5.1
        obtain ⟨h3, z1, z2, z3⟩ := x_and4 (g1 := g1) l2 o80 (nI lv) (nI j)
        have l3 := z2.lay l2
        have e : f_X2_readBoth_b39 g1 42 (nI lv) (nI ob) (nI (ob + 4)) (nI j) g = some (.inl (nI (j + 1), h3)) := by simp (disch := first | assumption | omega | decide | ((repeat first | apply lyI | apply lyJ | apply lywI | apply lywJ | apply csI | apply csJ | apply cswI | apply cswJ); assumption)) only [f_X2_readBoth_b39, SR, SX, LI, ↓li_m1, nI_add, pk_mul, nn_sub, nn_m1, nn_div, nn_rem, nn_nz, nn_mod, nJ_l, lN_add, lN_mul, nn_tb1, nI_bt, nn_and, nn_or, nn_xor, nn_shr, nn_1shl, nn_31, il_p, il_n, it_p, it_n, ie_p, ie_n, ie_b, ie_b1, ie_m, ie_mm, it_m, it_m0, il_m0, bI_rZ, Option.bind_some, bd2_some, Nat.add_zero, Nat.zero_add, if_true, if_false, Bool.false_eq_true, eq_self, hI_R, hJ_R, ng_t, ng_e, e10, a1, y3, z1]
        have z2' : FR h2 h3 [4] [4, 51] [] [] := z2.mono (by decide) (by decide) (by decide) (by decide)
        have lc3 := lc_fr z2 (by simp) (by simp) y5
        have fz := ((f4_51 f1).tr y4).tr z2'
        have sz : ∀ y, y < ob → h3.2.2.1 51 y = g.2.2.1 51 y := fun y hy => by rw [z3, if_neg (by omega), y6 y (by omega), s1]
        rw [wl_l e, e1]
        refine oxl_c fz sz (x_bL o80 one gf (j + 1) F' h3 i2 (jnB 11 S S2) (by omega) (by omega) (xs_fr xs fz lc3) (fun w hw => ?_))
        have q1 := st w hw
        have q2 := y7 w hw
        rw [z3, if_pos (by omega), j_and, y6 _ (by omega), s1, q1, show ob + w / 64 + 4 = ob + 4 + w / 64 by omega, q2]
        unfold jnB
        cases P w <;> cases S w <;> cases S2 w <;> rfl
    · have ne : ¬ nI (tcI T n i) = nI 19 := d_ne (by have := tc_le (T := T) (n := n) (i := i); omega) (by decide) t
      have e : f_X2_readBoth_b39 g1 42 (nI lv) (nI ob) (nI (ob + 4)) (nI j) g = some (.inr (.inr g)) := by simp (disch := first | assumption | omega | decide | ((repeat first | apply lyI | apply lyJ | apply lywI | apply lywJ | apply csI | apply csJ | apply cswI | apply cswJ); assumption)) only [f_X2_readBoth_b39, SR, SX, LI, ↓li_m1, nI_add, pk_mul, nn_sub, nn_m1, nn_div, nn_rem, nn_nz, nn_mod, nJ_l, lN_add, lN_mul, nn_tb1, nI_bt, nn_and, nn_or, nn_xor, nn_shr, nn_1shl, nn_31, il_p, il_n, it_p, it_n, ie_p, ie_n, ie_b, ie_b1, ie_m, ie_mm, it_m, it_m0, il_m0, bI_rZ, Option.bind_some, bd2_some, Nat.add_zero, Nat.zero_add, if_true, if_false, Bool.false_eq_true, eq_self, hI_R, hJ_R, ng_t, ng_e, e10, if_neg ne]
      rw [wl_r e, show pBL T n p (gf + 1) i S = .inr (i, S) from if_neg t]
      exact ⟨g, rfl, FR.rf, xs.1, fun _ _ => rfl, st⟩
theorem x_both {g1 : aH → Nat → Int32 → Option (Int32 × aH)} {c : Nat} {T : Nat → Nat} {n m : Nat} {A : Nat → Nat} {V : Nat → List Nat} {P : WS} {lv ob : Nat} (l6 : lv ≤ 6) (hob : (lv * 3 + 1) * 4 = ob) {p : Nat → CR} (one : ∀ h i, XSc h c T n m i A V P → OXc h T n m P (ob + 4) (g1 h 42 (nI lv)) (p i)) : ∀ h i, XSc h c T n m i A V P → OXc h T n m P ob (f_X2_readBoth_g g1 h 42 (nI lv)) (pBo T n p i) := fun h i xs => by
  have hl := xs.1.1
  have o1 := one h i xs
  cases hp : p i with
  | inl q =>
    obtain ⟨a, b⟩ := q
    rw [hp] at o1
    obtain ⟨y1, y2, h', y3, y4, y5⟩ := o1
    have e1 : pBo T n p i = .inl (a, b) := by unfold pBo; rw [hp]
    rw [e1]
    exact ⟨y1, y2, h', by simp (disch := first | assumption | omega | decide | ((repeat first | apply lyI | apply lyJ | apply lywI | apply lywJ | apply csI | apply csJ | apply cswI | apply cswJ); assumption)) only [f_X2_readBoth_g, SR, LI, ↓li_m1, nI_add, pk_mul, nn_sub, nn_m1, nn_div, nn_rem, nn_nz, nn_mod, nJ_l, lN_add, lN_mul, nn_tb1, nI_bt, nn_and, nn_or, nn_xor, nn_shr, nn_1shl, nn_31, il_p, il_n, it_p, it_n, ie_p, ie_n, ie_b, ie_b1, ie_m, ie_mm, it_m, it_m0, il_m0, bI_rZ, Option.bind_some, bd2_some, Nat.add_zero, Nat.zero_add, if_true, if_false, Bool.false_eq_true, eq_self, hI_R, hJ_R, ng_t, ng_e, hob, y3], y4, y5⟩
  | inr q =>
    obtain ⟨i2, S2⟩ := q
    rw [hp] at o1
    obtain ⟨h2, y3, y4, y5, y6, y7⟩ := o1
    have l2 := y5.1
    have e1 : pBo T n p i = pBL T n p 901 i2 S2 := by unfold pBo; rw [hp]
    have cp := cp_J l2 (a := 51) (b := 51) (s := ob + 4) (d := ob) rfl rfl (show ob + 4 + 4 ≤ 84 by omega) (show ob + 4 ≤ 84 by omega) (by omega) (by omega)
    let h3 := wJ h2 51 (setF (h2.2.2.1 51) ob 4 (fun x => h2.2.2.1 51 (ob + 4 + x)))
    have f3 : FR h2 h3 [4] [4, 51] [] [] := FR.wJ (by decide)
    have f3' : FR h2 h3 [] [51] [] [] := FR.wJ (by decide)
    have lc3 := lc_fr f3' (by simp) (by simp) y5
    have fz := y4.tr f3
    have st3 : ST51 h3 ob P S2 := fun w hw => by
      have q2 := y7 w hw
      show ((wJ h2 51 (setF (h2.2.2.1 51) ob 4 (fun x => h2.2.2.1 51 (ob + 4 + x)))).2.2.1 51 (ob + w / 64)).toBitVec.getLsbD (w % 64) = _
      rw [wJ_s, setF_in (by omega)]
      exact q2
    have sz : ∀ y, y < ob → h3.2.2.1 51 y = h.2.2.1 51 y := fun y hy => by
      show (wJ h2 51 (setF (h2.2.2.1 51) ob 4 (fun x => h2.2.2.1 51 (ob + 4 + x)))).2.2.1 51 y = _
      rw [wJ_s, setF_out (by omega)]
      exact y6 y (by omega)
    have lp := oxl_c fz sz (x_bL (by omega) one 901 0 wN h3 i2 S2 rfl (by rw [wN_e]; omega) (xs_fr xs fz lc3) st3)
    have e : ∀ z, f_X2_readBoth_l39 g1 42 (nI lv) (nI ob) (nI (ob + 4)) (nI 0) h3 = some z → f_X2_readBoth_g g1 h 42 (nI lv) = (match z with | .inl h22 => some ((0 : Int32), h22) | .inr h23 => some ((1 : Int32), h23)) := fun z hz => by
      have hz' : f_X2_readBoth_l39 g1 42 (nI lv) (nI ob) (nI (ob + 4)) (nI 0) (wJ h2 51 (setF (h2.2.2.1 51) ob 4 (fun x => h2.2.2.1 51 (ob + 4 + x)))) = some z := hz
      simp (disch := first | assumption | omega | decide | ((repeat first | apply lyI | apply lyJ | apply lywI | apply lywJ | apply csI | apply csJ | apply cswI | apply cswJ); assumption)) only [f_X2_readBoth_g, SR, LI, ↓li_m1, nI_add, pk_mul, nn_sub, nn_m1, nn_div, nn_rem, nn_nz, nn_mod, nJ_l, lN_add, lN_mul, nn_tb1, nI_bt, nn_and, nn_or, nn_xor, nn_shr, nn_1shl, nn_31, il_p, il_n, it_p, it_n, ie_p, ie_n, ie_b, ie_b1, ie_m, ie_mm, it_m, it_m0, il_m0, bI_rZ, Option.bind_some, bd2_some, Nat.add_zero, Nat.zero_add, if_true, if_false, Bool.false_eq_true, eq_self, hI_R, hJ_R, ng_t, ng_e, hob, y3, cp, hz']
      cases z <;> rfl
    rw [e1]
    cases hq : pBL T n p 901 i2 S2 with
    | inl q =>
      obtain ⟨a, b⟩ := q
      rw [hq] at lp
      obtain ⟨w1, w2, h', w3, w4, w5⟩ := lp
      exact ⟨w1, w2, h', e _ w3, w4, w5⟩
    | inr q =>
      obtain ⟨i3, S3⟩ := q
      rw [hq] at lp
      obtain ⟨h', w3, w4, w5, w6, w7⟩ := lp
      exact ⟨h', e _ w3, w4, w5, w6, w7⟩
def pEg (T : Nat → Nat) (n : Nat) (b : Nat → CR) (i : Nat) : CR := match b i with
  | .inl e => .inl e
  | .inr (i', S) => pEL T n b 901 i' S
theorem peg_e {T : Nat → Nat} {n : Nat} {p : Nat → CR} {i : Nat} : pEg T n (pBo T n p) i = pEi T n p i := rfl
theorem x_or4 {g1 : aH → Nat → Int32 → Option (Int32 × aH)} {h : aH} (hl : LAY h) {ob : Nat} (o80 : ob + 8 ≤ 84) (v1 v4 : Int32) : ∃ h', f_X2_readEither_l77 g1 42 v1 (nI ob) (nI (ob + 4)) v4 (nI 0) h = some h' ∧ FR h h' [] [51] [] [] ∧ ∀ x, h'.2.2.1 51 x = if ob ≤ x ∧ x < ob + 4 then h.2.2.1 51 x ||| h.2.2.1 51 (x + 4) else h.2.2.1 51 x := by
  refine forI (fun j (t : Int32 × aH) => ∃ g, t = (nI j, g) ∧ FR h g [] [51] [] [] ∧ ∀ x, g.2.2.1 51 x = if ob ≤ x ∧ x < ob + j then h.2.2.1 51 x ||| h.2.2.1 51 (x + 4) else h.2.2.1 51 x) _ 4 (by decide) ⟨h, rfl, FR.rf, fun x => by rw [if_neg (by omega)]⟩ ?_ ?_
  · rintro j _ hj ⟨g, rfl, fg, i1⟩
    have lg := fg.lay hl
    have r1 : g.2.2.1 51 (ob + j) = h.2.2.1 51 (ob + j) := by rw [i1, if_neg (by omega)]
    have r2 : g.2.2.1 51 (ob + 4 + j) = h.2.2.1 51 (ob + j + 4) := by rw [i1, if_neg (by omega), show ob + 4 + j = ob + j + 4 by omega]
    refine ⟨(nI (j + 1), hJ g 51 (ob + j) (h.2.2.1 51 (ob + j) ||| h.2.2.1 51 (ob + j + 4))), ?_, _, rfl, fg.tr (FR.hJ (by decide)), fun x => ?_⟩
    · simp (disch := first | assumption | omega | decide | ((repeat first | apply lyI | apply lyJ | apply lywI | apply lywJ | apply csI | apply csJ | apply cswI | apply cswJ); assumption)) only [f_X2_readEither_b77, SR, LI, ↓li_m1, nI_add, pk_mul, nn_sub, nn_m1, nn_div, nn_rem, nn_nz, nn_mod, nJ_l, lN_add, lN_mul, nn_tb1, nI_bt, nn_and, nn_or, nn_xor, nn_shr, nn_1shl, nn_31, il_p, il_n, it_p, it_n, ie_p, ie_n, ie_b, ie_b1, ie_m, ie_mm, it_m, it_m0, il_m0, bI_rZ, Option.bind_some, bd2_some, Nat.add_zero, Nat.zero_add, if_true, if_false, Bool.false_eq_true, eq_self, hI_R, hJ_R, ng_t, ng_e, r1, r2]
    · by_cases hx : x = ob + j
      · subst hx
        rw [rJ_eq, if_pos (by omega)]
      · rw [rJ_nk hx, i1]
        by_cases hy : ob ≤ x ∧ x < ob + j
        · rw [if_pos hy, if_pos (by omega)]
        · rw [if_neg hy, if_neg (by omega)]
  · rintro _ ⟨g, rfl, fg, i1⟩
    exact ⟨g, by simp (disch := first | assumption | omega | decide | ((repeat first | apply lyI | apply lyJ | apply lywI | apply lywJ | apply csI | apply csJ | apply cswI | apply cswJ); assumption)) only [f_X2_readEither_b77, LI, ↓li_m1, nI_add, pk_mul, nn_sub, nn_m1, nn_div, nn_rem, nn_nz, nn_mod, nJ_l, lN_add, lN_mul, nn_tb1, nI_bt, nn_and, nn_or, nn_xor, nn_shr, nn_1shl, nn_31, il_p, il_n, it_p, it_n, ie_p, ie_n, ie_b, ie_b1, ie_m, ie_mm, it_m, it_m0, il_m0, bI_rZ, Option.bind_some, bd2_some, Nat.add_zero, Nat.zero_add, if_true, if_false, Bool.false_eq_true, eq_self, hI_R, hJ_R, ng_t, ng_e], fg, i1⟩
theorem x_eL {g1 : aH → Nat → Int32 → Option (Int32 × aH)} {c : Nat} {T : Nat → Nat} {n m : Nat} {A : Nat → Nat} {V : Nat → List Nat} {P : WS} {lv ob : Nat} (o80 : ob + 8 ≤ 84) {p : Nat → CR} (one : ∀ h i, XSc h c T n m i A V P → OXc h T n m P (ob + 4) (g1 h 42 (nI lv)) (p i)) : ∀ (gf j F : Nat) (g : aH) (i : Nat) (S : WS), j + gf = 901 → gf < F → XSc g c T n m i A V P → ST51 g ob P S → OXl g T n m P ob (whileL F (fun q : Int32 × aH => f_X2_readEither_b37 g1 42 (nI lv) (nI ob) (nI (ob + 4)) q.1 q.2) (nI j, g)) (pEL T n p gf i S)
  | 0, j, F, g, i, S, hj, hF, xs, st => by
    obtain ⟨F', rfl⟩ := ex_s hF
    obtain rfl : j = 901 := by omega
    have e : f_X2_readEither_b37 g1 42 (nI lv) (nI ob) (nI (ob + 4)) (nI 901) g = some (.inr (.inr g)) := by simp (disch := first | assumption | omega | decide | ((repeat first | apply lyI | apply lyJ | apply lywI | apply lywJ | apply csI | apply csJ | apply cswI | apply cswJ); assumption)) only [f_X2_readEither_b37, LI, ↓li_m1, nI_add, pk_mul, nn_sub, nn_m1, nn_div, nn_rem, nn_nz, nn_mod, nJ_l, lN_add, lN_mul, nn_tb1, nI_bt, nn_and, nn_or, nn_xor, nn_shr, nn_1shl, nn_31, il_p, il_n, it_p, it_n, ie_p, ie_n, ie_b, ie_b1, ie_m, ie_mm, it_m, it_m0, il_m0, bI_rZ, Option.bind_some, bd2_some, Nat.add_zero, Nat.zero_add, if_true, if_false, Bool.false_eq_true, eq_self, hI_R, hJ_R, ng_t, ng_e]
    rw [wl_r e]
    exact ⟨g, rfl, FR.rf, xs.1, fun _ _ => rfl, st⟩
  | gf + 1, j, F, g, i, S, hj, hF, xs, st => by
    obtain ⟨F', rfl⟩ := ex_s hF
    have lg := xs.1.1
    have e10 : g.2.1 4 10 = nI (tcI T n i) := xs.1.2.2.1.2.1
    by_cases t : tcI T n i = 18
    · rw [t] at e10
      obtain ⟨h1, a1, f1, lc1⟩ := x_adv xs.1 (lc_lt xs.1 (by omega))
      have l1 := lc1.1
      have xs1 := xs_fr xs (f4_51 f1) lc1
      have o1 := one h1 (i + 1) xs1
      have s1 : h1.2.2.1 51 = g.2.2.1 51 := f1.J 51 (by decide)
      have e1 : pEL T n p (gf + 1) i S = (match p (i + 1) with | .inl e => .inl e | .inr (i', S') => pEL T n p gf i' (jnB 10 S S')) := if_pos t
      cases hp : p (i + 1) with
      | inl q =>
        obtain ⟨a, b⟩ := q
        rw [hp] at o1 e1
        obtain ⟨y1, y2, h', y3, y4, y5⟩ := o1
        have e : f_X2_readEither_b37 g1 42 (nI lv) (nI ob) (nI (ob + 4)) (nI j) g = some (.inr (.inl h')) := by simp (disch := first | assumption | omega | decide | ((repeat first | apply lyI | apply lyJ | apply lywI | apply lywJ | apply csI | apply csJ | apply cswI | apply cswJ); assumption)) only [f_X2_readEither_b37, SR, SX, LI, ↓li_m1, nI_add, pk_mul, nn_sub, nn_m1, nn_div, nn_rem, nn_nz, nn_mod, nJ_l, lN_add, lN_mul, nn_tb1, nI_bt, nn_and, nn_or, nn_xor, nn_shr, nn_1shl, nn_31, il_p, il_n, it_p, it_n, ie_p, ie_n, ie_b, ie_b1, ie_m, ie_mm, it_m, it_m0, il_m0, bI_rZ, Option.bind_some, bd2_some, Nat.add_zero, Nat.zero_add, if_true, if_false, Bool.false_eq_true, eq_self, hI_R, hJ_R, ng_t, ng_e, e10, a1, y3]
        rw [wl_r e, e1]
        exact ⟨y1, y2, h', rfl, (f4_51 f1).tr y4, y5⟩
      | inr q =>
        obtain ⟨i2, S2⟩ := q
        rw [hp] at o1 e1
        obtain ⟨h2, y3, y4, y5, y6, y7⟩ := o1
        have l2 := y5.1
        obtain ⟨h3, z1, z2, z3⟩ := x_or4 (g1 := g1) l2 o80 (nI lv) (nI j)
        have l3 := z2.lay l2
        have e : f_X2_readEither_b37 g1 42 (nI lv) (nI ob) (nI (ob + 4)) (nI j) g = some (.inl (nI (j + 1), h3)) := by simp (disch := first | assumption | omega | decide | ((repeat first | apply lyI | apply lyJ | apply lywI | apply lywJ | apply csI | apply csJ | apply cswI | apply cswJ); assumption)) only [f_X2_readEither_b37, SR, SX, LI, ↓li_m1, nI_add, pk_mul, nn_sub, nn_m1, nn_div, nn_rem, nn_nz, nn_mod, nJ_l, lN_add, lN_mul, nn_tb1, nI_bt, nn_and, nn_or, nn_xor, nn_shr, nn_1shl, nn_31, il_p, il_n, it_p, it_n, ie_p, ie_n, ie_b, ie_b1, ie_m, ie_mm, it_m, it_m0, il_m0, bI_rZ, Option.bind_some, bd2_some, Nat.add_zero, Nat.zero_add, if_true, if_false, Bool.false_eq_true, eq_self, hI_R, hJ_R, ng_t, ng_e, e10, a1, y3, z1]
        have z2' : FR h2 h3 [4] [4, 51] [] [] := z2.mono (by decide) (by decide) (by decide) (by decide)
        have lc3 := lc_fr z2 (by simp) (by simp) y5
        have fz := ((f4_51 f1).tr y4).tr z2'
        have sz : ∀ y, y < ob → h3.2.2.1 51 y = g.2.2.1 51 y := fun y hy => by rw [z3, if_neg (by omega), y6 y (by omega), s1]
        rw [wl_l e, e1]
        refine oxl_c fz sz (x_eL o80 one gf (j + 1) F' h3 i2 (jnB 10 S S2) (by omega) (by omega) (xs_fr xs fz lc3) (fun w hw => ?_))
        have q1 := st w hw
        have q2 := y7 w hw
        rw [z3, if_pos (by omega), j_or, y6 _ (by omega), s1, q1, show ob + w / 64 + 4 = ob + 4 + w / 64 by omega, q2]
        unfold jnB
        cases P w <;> cases S w <;> cases S2 w <;> rfl
    · have ne : ¬ nI (tcI T n i) = nI 18 := d_ne (by have := tc_le (T := T) (n := n) (i := i); omega) (by decide) t
      have e : f_X2_readEither_b37 g1 42 (nI lv) (nI ob) (nI (ob + 4)) (nI j) g = some (.inr (.inr g)) := by simp (disch := first | assumption | omega | decide | ((repeat first | apply lyI | apply lyJ | apply lywI | apply lywJ | apply csI | apply csJ | apply cswI | apply cswJ); assumption)) only [f_X2_readEither_b37, SR, SX, LI, ↓li_m1, nI_add, pk_mul, nn_sub, nn_m1, nn_div, nn_rem, nn_nz, nn_mod, nJ_l, lN_add, lN_mul, nn_tb1, nI_bt, nn_and, nn_or, nn_xor, nn_shr, nn_1shl, nn_31, il_p, il_n, it_p, it_n, ie_p, ie_n, ie_b, ie_b1, ie_m, ie_mm, it_m, it_m0, il_m0, bI_rZ, Option.bind_some, bd2_some, Nat.add_zero, Nat.zero_add, if_true, if_false, Bool.false_eq_true, eq_self, hI_R, hJ_R, ng_t, ng_e, e10, if_neg ne]
      rw [wl_r e, show pEL T n p (gf + 1) i S = .inr (i, S) from if_neg t]
      exact ⟨g, rfl, FR.rf, xs.1, fun _ _ => rfl, st⟩
theorem x_either {g1 : aH → Nat → Int32 → Option (Int32 × aH)} {c : Nat} {T : Nat → Nat} {n m : Nat} {A : Nat → Nat} {V : Nat → List Nat} {P : WS} {lv ob : Nat} (l6 : lv ≤ 6) (hob : lv * 3 * 4 = ob) {p : Nat → CR} (one : ∀ h i, XSc h c T n m i A V P → OXc h T n m P (ob + 4) (g1 h 42 (nI lv)) (p i)) : ∀ h i, XSc h c T n m i A V P → OXc h T n m P ob (f_X2_readEither_g g1 h 42 (nI lv)) (pEg T n p i) := fun h i xs => by
  have hl := xs.1.1
  have o1 := one h i xs
  cases hp : p i with
  | inl q =>
    obtain ⟨a, b⟩ := q
    rw [hp] at o1
    obtain ⟨y1, y2, h', y3, y4, y5⟩ := o1
    have e1 : pEg T n p i = .inl (a, b) := by unfold pEg; rw [hp]
    rw [e1]
    exact ⟨y1, y2, h', by simp (disch := first | assumption | omega | decide | ((repeat first | apply lyI | apply lyJ | apply lywI | apply lywJ | apply csI | apply csJ | apply cswI | apply cswJ); assumption)) only [f_X2_readEither_g, SR, LI, ↓li_m1, nI_add, pk_mul, nn_sub, nn_m1, nn_div, nn_rem, nn_nz, nn_mod, nJ_l, lN_add, lN_mul, nn_tb1, nI_bt, nn_and, nn_or, nn_xor, nn_shr, nn_1shl, nn_31, il_p, il_n, it_p, it_n, ie_p, ie_n, ie_b, ie_b1, ie_m, ie_mm, it_m, it_m0, il_m0, bI_rZ, Option.bind_some, bd2_some, Nat.add_zero, Nat.zero_add, if_true, if_false, Bool.false_eq_true, eq_self, hI_R, hJ_R, ng_t, ng_e, hob, y3], y4, y5⟩
  | inr q =>
    obtain ⟨i2, S2⟩ := q
    rw [hp] at o1
    obtain ⟨h2, y3, y4, y5, y6, y7⟩ := o1
    have l2 := y5.1
    have e1 : pEg T n p i = pEL T n p 901 i2 S2 := by unfold pEg; rw [hp]
    have cp := cp_J l2 (a := 51) (b := 51) (s := ob + 4) (d := ob) rfl rfl (show ob + 4 + 4 ≤ 84 by omega) (show ob + 4 ≤ 84 by omega) (by omega) (by omega)
    let h3 := wJ h2 51 (setF (h2.2.2.1 51) ob 4 (fun x => h2.2.2.1 51 (ob + 4 + x)))
    have f3 : FR h2 h3 [4] [4, 51] [] [] := FR.wJ (by decide)
    have f3' : FR h2 h3 [] [51] [] [] := FR.wJ (by decide)
    have lc3 := lc_fr f3' (by simp) (by simp) y5
    have fz := y4.tr f3
    have st3 : ST51 h3 ob P S2 := fun w hw => by
      have q2 := y7 w hw
      show ((wJ h2 51 (setF (h2.2.2.1 51) ob 4 (fun x => h2.2.2.1 51 (ob + 4 + x)))).2.2.1 51 (ob + w / 64)).toBitVec.getLsbD (w % 64) = _
      rw [wJ_s, setF_in (by omega)]
      exact q2
    have sz : ∀ y, y < ob → h3.2.2.1 51 y = h.2.2.1 51 y := fun y hy => by
      show (wJ h2 51 (setF (h2.2.2.1 51) ob 4 (fun x => h2.2.2.1 51 (ob + 4 + x)))).2.2.1 51 y = _
      rw [wJ_s, setF_out (by omega)]
      exact y6 y (by omega)
    have lp := oxl_c fz sz (x_eL (by omega) one 901 0 wN h3 i2 S2 rfl (by rw [wN_e]; omega) (xs_fr xs fz lc3) st3)
    have e : ∀ z, f_X2_readEither_l37 g1 42 (nI lv) (nI ob) (nI (ob + 4)) (nI 0) h3 = some z → f_X2_readEither_g g1 h 42 (nI lv) = (match z with | .inl h22 => some ((0 : Int32), h22) | .inr h23 => some ((1 : Int32), h23)) := fun z hz => by
      have hz' : f_X2_readEither_l37 g1 42 (nI lv) (nI ob) (nI (ob + 4)) (nI 0) (wJ h2 51 (setF (h2.2.2.1 51) ob 4 (fun x => h2.2.2.1 51 (ob + 4 + x)))) = some z := hz
      simp (disch := first | assumption | omega | decide | ((repeat first | apply lyI | apply lyJ | apply lywI | apply lywJ | apply csI | apply csJ | apply cswI | apply cswJ); assumption)) only [f_X2_readEither_g, SR, LI, ↓li_m1, nI_add, pk_mul, nn_sub, nn_m1, nn_div, nn_rem, nn_nz, nn_mod, nJ_l, lN_add, lN_mul, nn_tb1, nI_bt, nn_and, nn_or, nn_xor, nn_shr, nn_1shl, nn_31, il_p, il_n, it_p, it_n, ie_p, ie_n, ie_b, ie_b1, ie_m, ie_mm, it_m, it_m0, il_m0, bI_rZ, Option.bind_some, bd2_some, Nat.add_zero, Nat.zero_add, if_true, if_false, Bool.false_eq_true, eq_self, hI_R, hJ_R, ng_t, ng_e, hob, y3, cp, hz']
      cases z <;> rfl
    rw [e1]
    cases hq : pEL T n p 901 i2 S2 with
    | inl q =>
      obtain ⟨a, b⟩ := q
      rw [hq] at lp
      obtain ⟨w1, w2, h', w3, w4, w5⟩ := lp
      exact ⟨w1, w2, h', e _ w3, w4, w5⟩
    | inr q =>
      obtain ⟨i3, S3⟩ := q
      rw [hq] at lp
      obtain ⟨h', w3, w4, w5, w6, w7⟩ := lp
      exact ⟨h', e _ w3, w4, w5, w6, w7⟩
theorem x_not4 {g1 g2 : aH → Nat → Int32 → Option (Int32 × aH)} {h : aH} (hl : LAY h) {oq : Nat} (o80 : oq + 16 ≤ 84) : ∃ h', f_X2_readOne_l140 g1 g2 42 (nI oq) (nI (oq + 4)) (nI 0) h = some h' ∧ FR h h' [] [51] [] [] ∧ ∀ x, h'.2.2.1 51 x = if oq ≤ x ∧ x < oq + 4 then h.2.2.1 50 (x - oq) &&& (h.2.2.1 51 (x + 12) ^^^ (-1 : Int64)) else h.2.2.1 51 x := by
  refine forI (fun j (t : Int32 × aH) => ∃ g, t = (nI j, g) ∧ FR h g [] [51] [] [] ∧ ∀ x, g.2.2.1 51 x = if oq ≤ x ∧ x < oq + j then h.2.2.1 50 (x - oq) &&& (h.2.2.1 51 (x + 12) ^^^ (-1 : Int64)) else h.2.2.1 51 x) _ 4 (by decide) ⟨h, rfl, FR.rf, fun x => by rw [if_neg (by omega)]⟩ ?_ ?_
  · rintro j _ hj ⟨g, rfl, fg, i1⟩
    have lg := fg.lay hl
    have ix : oq + 4 + 8 + j = oq + j + 12 := by omega
    have r1 : g.2.2.1 50 j = h.2.2.1 50 j := by rw [fg.J 50 (by decide)]
    have r2 : g.2.2.1 51 (oq + j + 12) = h.2.2.1 51 (oq + j + 12) := by rw [i1, if_neg (by omega)]
    refine ⟨(nI (j + 1), hJ g 51 (oq + j) (h.2.2.1 50 j &&& (h.2.2.1 51 (oq + j + 12) ^^^ (-1 : Int64)))), ?_, _, rfl, fg.tr (FR.hJ (by decide)), fun x => ?_⟩
    · simp (disch := first | assumption | omega | decide | ((repeat first | apply lyI | apply lyJ | apply lywI | apply lywJ | apply csI | apply csJ | apply cswI | apply cswJ); assumption)) only [f_X2_readOne_b140, SR, LI, ↓li_m1, nI_add, pk_mul, nn_sub, nn_m1, nn_div, nn_rem, nn_nz, nn_mod, nJ_l, lN_add, lN_mul, nn_tb1, nI_bt, nn_and, nn_or, nn_xor, nn_shr, nn_1shl, nn_31, il_p, il_n, it_p, it_n, ie_p, ie_n, ie_b, ie_b1, ie_m, ie_mm, it_m, it_m0, il_m0, bI_rZ, Option.bind_some, bd2_some, Nat.add_zero, Nat.zero_add, if_true, if_false, Bool.false_eq_true, eq_self, hI_R, hJ_R, ng_t, ng_e, ix, r1, r2]
    · by_cases hx : x = oq + j
      · subst hx
        rw [rJ_eq, if_pos (by omega), Nat.add_sub_cancel_left]
      · rw [rJ_nk hx, i1]
        by_cases hy : oq ≤ x ∧ x < oq + j
        · rw [if_pos hy, if_pos (by omega)]
        · rw [if_neg hy, if_neg (by omega)]
  · rintro _ ⟨g, rfl, fg, i1⟩
    exact ⟨g, by simp (disch := first | assumption | omega | decide | ((repeat first | apply lyI | apply lyJ | apply lywI | apply lywJ | apply csI | apply csJ | apply cswI | apply cswJ); assumption)) only [f_X2_readOne_b140, LI, ↓li_m1, nI_add, pk_mul, nn_sub, nn_m1, nn_div, nn_rem, nn_nz, nn_mod, nJ_l, lN_add, lN_mul, nn_tb1, nI_bt, nn_and, nn_or, nn_xor, nn_shr, nn_1shl, nn_31, il_p, il_n, it_p, it_n, ie_p, ie_n, ie_b, ie_b1, ie_m, ie_mm, it_m, it_m0, il_m0, bI_rZ, Option.bind_some, bd2_some, Nat.add_zero, Nat.zero_add, if_true, if_false, Bool.false_eq_true, eq_self, hI_R, hJ_R, ng_t, ng_e], fg, i1⟩
theorem x_one {c : Nat} {T : Nat → Nat} {n m : Nat} {A : Nat → Nat} {V : Nat → List Nat} {P : WS} (a1 : A 1 ≤ 24) (nv : NV (cA A) V) : ∀ (f lv oq : Nat), lv ≤ 6 → 7 ≤ f + lv → (lv * 3 + 2) * 4 = oq → ∀ h i, XSc h c T n m i A V P → OXc h T n m P oq (f_X2_rOne f h 42 (nI lv)) (pOn T n A (cA A) V f lv i)
  | 0, lv, oq, l6, h7, _, _, _, _ => absurd h7 (by omega)
  | f + 1, lv, oq, l6, h7, hoq, h, i, xs => by
    have hl := xs.1.1
    have hod : (lv + 1) * 3 * 4 = oq + 4 := by omega
    have e10 : h.2.1 4 10 = nI (tcI T n i) := xs.1.2.2.1.2.1
    have tl := tc_le (T := T) (n := n) (i := i)
    have ef : f_X2_rOne (f + 1) = f_X2_readOne_g (f_X2_rOne f) (f_X2_readEither_g (f_X2_readBoth_g (f_X2_rOne f))) := rfl
    rw [ef]
    have h6 := xs.2.2.1
    have hs := xs.2.1
    by_cases t20 : tcI T n i = 20
    · rw [t20] at e10
      rcases Nat.lt_or_ge lv 6 with u | u
      · obtain ⟨h1, ad, f1, lc1⟩ := x_adv xs.1 (lc_lt xs.1 (by omega))
        have l1 := lc1.1
        have xs1 := xs_fr xs (f4_51 f1) lc1
        have s1 : h1.2.2.1 51 = h.2.2.1 51 := f1.J 51 (by decide)
        have o1 := x_one a1 nv f (lv + 1) (oq + 12) (by omega) (by omega) (by omega) h1 (i + 1) xs1
        have e1 : pOn T n A (cA A) V (f + 1) lv i = (match pOn T n A (cA A) V f (lv + 1) (i + 1) with | .inl e => .inl e | .inr (i', S) => .inr (i', ntB S)) := by
          show (if tcI T n i = 20 then _ else _) = _
          rw [if_pos t20, if_pos u] <;> rfl
        cases hp : pOn T n A (cA A) V f (lv + 1) (i + 1) with
        | inl q =>
          obtain ⟨a, b⟩ := q
          rw [hp] at o1 e1
          obtain ⟨y1, y2, h', y3, y4, y5⟩ := o1
          rw [e1]
          exact ⟨y1, y2, h', by simp (disch := first | assumption | omega | decide | ((repeat first | apply lyI | apply lyJ | apply lywI | apply lywJ | apply csI | apply csJ | apply cswI | apply cswJ); assumption)) only [f_X2_readOne_g, f_X2_readOne_j90, SR, SX, LI, ↓li_m1, nI_add, pk_mul, nn_sub, nn_m1, nn_div, nn_rem, nn_nz, nn_mod, nJ_l, lN_add, lN_mul, nn_tb1, nI_bt, nn_and, nn_or, nn_xor, nn_shr, nn_1shl, nn_31, il_p, il_n, it_p, it_n, ie_p, ie_n, ie_b, ie_b1, ie_m, ie_mm, it_m, it_m0, il_m0, bI_rZ, Option.bind_some, bd2_some, Nat.add_zero, Nat.zero_add, if_true, if_false, Bool.false_eq_true, eq_self, hI_R, hJ_R, ng_t, ng_e, hoq, hod, e10, ad, y3], (f4_51 f1).tr y4, y5⟩
        | inr q =>
          obtain ⟨i2, S2⟩ := q
          rw [hp] at o1 e1
          obtain ⟨h2, y3, y4, y5, y6, y7⟩ := o1
          have l2 := y5.1
          obtain ⟨h3, z1, z2, z3⟩ := x_not4 (g1 := f_X2_rOne f) (g2 := f_X2_readEither_g (f_X2_readBoth_g (f_X2_rOne f))) l2 (oq := oq) (by omega)
          have z2' : FR h2 h3 [4] [4, 51] [] [] := z2.mono (by decide) (by decide) (by decide) (by decide)
          have lc3 := lc_fr z2 (by simp) (by simp) y5
          have x50 : h2.2.2.1 50 = h.2.2.1 50 := by rw [y4.J 50 (by decide), f1.J 50 (by decide)]
          rw [e1]
          refine ⟨h3, by simp (disch := first | assumption | omega | decide | ((repeat first | apply lyI | apply lyJ | apply lywI | apply lywJ | apply csI | apply csJ | apply cswI | apply cswJ); assumption)) only [f_X2_readOne_g, f_X2_readOne_j90, SR, SX, LI, ↓li_m1, nI_add, pk_mul, nn_sub, nn_m1, nn_div, nn_rem, nn_nz, nn_mod, nJ_l, lN_add, lN_mul, nn_tb1, nI_bt, nn_and, nn_or, nn_xor, nn_shr, nn_1shl, nn_31, il_p, il_n, it_p, it_n, ie_p, ie_n, ie_b, ie_b1, ie_m, ie_mm, it_m, it_m0, il_m0, bI_rZ, Option.bind_some, bd2_some, Nat.add_zero, Nat.zero_add, if_true, if_false, Bool.false_eq_true, eq_self, hI_R, hJ_R, ng_t, ng_e, hoq, hod, e10, ad, y3, z1], ((f4_51 f1).tr y4).tr z2', lc3, fun y hy => by rw [z3, if_neg (by omega), y6 y (by omega), s1], fun w hw => ?_⟩
          have q1 := xs.2.2.2.2.1 w hw
          have q2 := y7 w hw
          rw [z3, if_pos (by omega), j_and, j_not (by omega), Nat.add_sub_cancel_left, x50, q1, show oq + w / 64 + 12 = oq + 12 + w / 64 by omega, q2]
          unfold ntB
          cases P w <;> cases S2 w <;> rfl
      · obtain ⟨h', r, f2, l⟩ := x_ref xs.1 7
        rw [fk_n (by omega)] at l
        have e1 : pOn T n A (cA A) V (f + 1) lv i = .inl (7, frI T n i) := by
          show (if tcI T n i = 20 then _ else _) = _
          rw [if_pos t20, if_neg (by omega)]
        rw [e1]
        exact ⟨by decide, by decide, h', by simp (disch := first | assumption | omega | decide | ((repeat first | apply lyI | apply lyJ | apply lywI | apply lywJ | apply csI | apply csJ | apply cswI | apply cswJ); assumption)) only [f_X2_readOne_g, f_X2_readOne_j90, SR, SX, LI, ↓li_m1, nI_add, pk_mul, nn_sub, nn_m1, nn_div, nn_rem, nn_nz, nn_mod, nJ_l, lN_add, lN_mul, nn_tb1, nI_bt, nn_and, nn_or, nn_xor, nn_shr, nn_1shl, nn_31, il_p, il_n, it_p, it_n, ie_p, ie_n, ie_b, ie_b1, ie_m, ie_mm, it_m, it_m0, il_m0, bI_rZ, Option.bind_some, bd2_some, Nat.add_zero, Nat.zero_add, if_true, if_false, Bool.false_eq_true, eq_self, hI_R, hJ_R, ng_t, ng_e, hoq, hod, e10, r, rz0], f4_51 f2, l⟩
    · have n20 : ¬ nI (tcI T n i) = nI 20 := d_ne (by omega) (by decide) t20
      by_cases t4 : tcI T n i = 4
      · rw [t4] at e10
        rcases Nat.lt_or_ge lv 6 with u | u
        · obtain ⟨h1, ad, f1, lc1⟩ := x_adv xs.1 (lc_lt xs.1 (by omega))
          have l1 := lc1.1
          have xs1 := xs_fr xs (f4_51 f1) lc1
          have s1 : h1.2.2.1 51 = h.2.2.1 51 := f1.J 51 (by decide)
          have bo := x_both (g1 := f_X2_rOne f) (c := c) (T := T) (n := n) (m := m) (A := A) (V := V) (P := P) (lv := lv + 1) (ob := oq + 8) (p := pOn T n A (cA A) V f (lv + 1)) (by omega) (by omega) (fun h i xs => x_one a1 nv f (lv + 1) (oq + 8 + 4) (by omega) (by omega) (by omega) h i xs)
          have o1 := x_either (lv := lv + 1) (ob := oq + 4) (by omega) (by omega) bo h1 (i + 1) xs1
          rw [peg_e] at o1
          have e1 : pOn T n A (cA A) V (f + 1) lv i = (match pEi T n (pOn T n A (cA A) V f (lv + 1)) (i + 1) with | .inl e => .inl e | .inr (i', S) => if tcI T n i' = 5 then .inr (i' + 1, S) else .inl (fkN T n i' 2, frI T n i')) := by
            show (if tcI T n i = 20 then _ else _) = _
            rw [if_neg t20, if_pos t4, if_pos u] <;> rfl
          cases hp : pEi T n (pOn T n A (cA A) V f (lv + 1)) (i + 1) with
          | inl q =>
            obtain ⟨a, b⟩ := q
            rw [hp] at o1 e1
            obtain ⟨y1, y2, h', y3, y4, y5⟩ := o1
            rw [e1]
            exact ⟨y1, y2, h', by simp (disch := first | assumption | omega | decide | ((repeat first | apply lyI | apply lyJ | apply lywI | apply lywJ | apply csI | apply csJ | apply cswI | apply cswJ); assumption)) only [f_X2_readOne_g, f_X2_readOne_j90, SR, SX, LI, ↓li_m1, nI_add, pk_mul, nn_sub, nn_m1, nn_div, nn_rem, nn_nz, nn_mod, nJ_l, lN_add, lN_mul, nn_tb1, nI_bt, nn_and, nn_or, nn_xor, nn_shr, nn_1shl, nn_31, il_p, il_n, it_p, it_n, ie_p, ie_n, ie_b, ie_b1, ie_m, ie_mm, it_m, it_m0, il_m0, bI_rZ, Option.bind_some, bd2_some, Nat.add_zero, Nat.zero_add, if_true, if_false, Bool.false_eq_true, eq_self, hI_R, hJ_R, ng_t, ng_e, hoq, hod, e10, ad, y3], (f4_51 f1).tr y4, y5⟩
          | inr q =>
            obtain ⟨i2, S2⟩ := q
            rw [hp] at o1 e1
            obtain ⟨h2, y3, y4, y5, y6, y7⟩ := o1
            have l2 := y5.1
            rcases x_take (w := 5) y5 (by decide) (by decide) with ⟨t5, h', r, f3, l⟩ | ⟨t5, h', r, f3, l⟩
            · rw [e1.trans (if_pos t5)]
              have l3 := l.1
              have cp := cp_J l3 (a := 51) (b := 51) (s := oq + 4) (d := oq) rfl rfl (show oq + 4 + 4 ≤ 84 by omega) (show oq + 4 ≤ 84 by omega) (by omega) (by omega)
              have s3 : h'.2.2.1 51 = h2.2.2.1 51 := f3.J 51 (by decide)
              have f4 : FR h' (wJ h' 51 (setF (h'.2.2.1 51) oq 4 (fun x => h'.2.2.1 51 (oq + 4 + x)))) [] [51] [] [] := FR.wJ (by decide)
              refine ⟨wJ h' 51 (setF (h'.2.2.1 51) oq 4 (fun x => h'.2.2.1 51 (oq + 4 + x))), by simp (disch := first | assumption | omega | decide | ((repeat first | apply lyI | apply lyJ | apply lywI | apply lywJ | apply csI | apply csJ | apply cswI | apply cswJ); assumption)) only [f_X2_readOne_g, f_X2_readOne_j90, SR, SX, LI, ↓li_m1, nI_add, pk_mul, nn_sub, nn_m1, nn_div, nn_rem, nn_nz, nn_mod, nJ_l, lN_add, lN_mul, nn_tb1, nI_bt, nn_and, nn_or, nn_xor, nn_shr, nn_1shl, nn_31, il_p, il_n, it_p, it_n, ie_p, ie_n, ie_b, ie_b1, ie_m, ie_mm, it_m, it_m0, il_m0, bI_rZ, Option.bind_some, bd2_some, Nat.add_zero, Nat.zero_add, if_true, if_false, Bool.false_eq_true, eq_self, hI_R, hJ_R, ng_t, ng_e, hoq, hod, e10, ad, y3, r, cp], (((f4_51 f1).tr y4).tr (f4_51 f3)).tr (f4.mono (by decide) (by decide) (by decide) (by decide)), lc_fr f4 (by simp) (by simp) l, fun y hy => ?_, fun w hw => ?_⟩
              · rw [wJ_s, setF_out (by omega), s3, y6 y (by omega), s1]
              · have q2 := y7 w hw
                rw [wJ_s, setF_in (by omega), s3]
                exact q2
            · rw [e1.trans (if_neg t5)]
              obtain ⟨k1, k2⟩ := fk_b (T := T) (n := n) (i := i2) (k := 2) (by decide) (by decide)
              exact ⟨k1, k2, h', by simp (disch := first | assumption | omega | decide | ((repeat first | apply lyI | apply lyJ | apply lywI | apply lywJ | apply csI | apply csJ | apply cswI | apply cswJ); assumption)) only [f_X2_readOne_g, f_X2_readOne_j90, SR, SX, LI, ↓li_m1, nI_add, pk_mul, nn_sub, nn_m1, nn_div, nn_rem, nn_nz, nn_mod, nJ_l, lN_add, lN_mul, nn_tb1, nI_bt, nn_and, nn_or, nn_xor, nn_shr, nn_1shl, nn_31, il_p, il_n, it_p, it_n, ie_p, ie_n, ie_b, ie_b1, ie_m, ie_mm, it_m, it_m0, il_m0, bI_rZ, Option.bind_some, bd2_some, Nat.add_zero, Nat.zero_add, if_true, if_false, Bool.false_eq_true, eq_self, hI_R, hJ_R, ng_t, ng_e, hoq, hod, e10, ad, y3, r], ((f4_51 f1).tr y4).tr (f4_51 f3), l⟩
        · obtain ⟨h', r, f2, l⟩ := x_ref xs.1 7
          rw [fk_n (by omega)] at l
          have e1 : pOn T n A (cA A) V (f + 1) lv i = .inl (7, frI T n i) := by
            show (if tcI T n i = 20 then _ else _) = _
            rw [if_neg t20, if_pos t4, if_neg (by omega)]
          rw [e1]
          exact ⟨by decide, by decide, h', by simp (disch := first | assumption | omega | decide | ((repeat first | apply lyI | apply lyJ | apply lywI | apply lywJ | apply csI | apply csJ | apply cswI | apply cswJ); assumption)) only [f_X2_readOne_g, f_X2_readOne_j90, SR, SX, LI, ↓li_m1, nI_add, pk_mul, nn_sub, nn_m1, nn_div, nn_rem, nn_nz, nn_mod, nJ_l, lN_add, lN_mul, nn_tb1, nI_bt, nn_and, nn_or, nn_xor, nn_shr, nn_1shl, nn_31, il_p, il_n, it_p, it_n, ie_p, ie_n, ie_b, ie_b1, ie_m, ie_mm, it_m, it_m0, il_m0, bI_rZ, Option.bind_some, bd2_some, Nat.add_zero, Nat.zero_add, if_true, if_false, Bool.false_eq_true, eq_self, hI_R, hJ_R, ng_t, ng_e, hoq, hod, e10, r, rz0], f4_51 f2, l⟩
      · have n4 : ¬ nI (tcI T n i) = nI 4 := d_ne (by omega) (by decide) t4
        obtain ⟨u1, u2⟩ := x_seek xs.1 hs xs.2.2.2.1 nv (s := 1) (by decide)
        have e1 : pOn T n A (cA A) V (f + 1) lv i = (match nmO T n i (cA A) V 1 with | none => .inl (nmF T n i, frI T n i) | some v => .inr (i + 1, vlB A v)) := by
          show (if tcI T n i = 20 then _ else _) = _
          rw [if_neg t20, if_neg t4] <;> rfl
        cases hn : nmO T n i (cA A) V 1 with
        | none =>
          rw [hn] at e1
          obtain ⟨h', r, f2, l⟩ := u2 hn
          obtain ⟨n1, n2⟩ := nf_b (T := T) (n := n) (i := i)
          rw [e1]
          exact ⟨n1, n2, h', by simp (disch := first | assumption | omega | decide | ((repeat first | apply lyI | apply lyJ | apply lywI | apply lywJ | apply csI | apply csJ | apply cswI | apply cswJ); assumption)) only [f_X2_readOne_g, SR, SX, SC, LI, ↓li_m1, nI_add, pk_mul, nn_sub, nn_m1, nn_div, nn_rem, nn_nz, nn_mod, nJ_l, lN_add, lN_mul, nn_tb1, nI_bt, nn_and, nn_or, nn_xor, nn_shr, nn_1shl, nn_31, il_p, il_n, it_p, it_n, ie_p, ie_n, ie_b, ie_b1, ie_m, ie_mm, it_m, it_m0, il_m0, bI_rZ, Option.bind_some, bd2_some, Nat.add_zero, Nat.zero_add, if_true, if_false, Bool.false_eq_true, eq_self, hI_R, hJ_R, ng_t, ng_e, hoq, hod, e10, if_neg n20, if_neg n4, h6, r], f4_51 f2, l⟩
        | some v =>
          rw [hn] at e1
          have r := u1 v hn
          have vb : v < A 1 := (nm_6 hn).2
          obtain ⟨h1, ad, f1, lc1⟩ := x_adv xs.1 (lc_lt xs.1 (by have := (nm_6 hn).1; omega))
          have l1 := lc1.1
          have cp := cp_J l1 (a := 51) (b := 49) (s := v * 4) (d := oq) rfl rfl (show v * 4 + 4 ≤ 96 by omega) (show oq + 4 ≤ 84 by omega) (by omega) (by omega)
          have f4 : FR h1 (wJ h1 51 (setF (h1.2.2.1 51) oq 4 (fun x => h1.2.2.1 49 (v * 4 + x)))) [] [51] [] [] := FR.wJ (by decide)
          rw [e1]
          refine ⟨wJ h1 51 (setF (h1.2.2.1 51) oq 4 (fun x => h1.2.2.1 49 (v * 4 + x))), by simp (disch := first | assumption | omega | decide | ((repeat first | apply lyI | apply lyJ | apply lywI | apply lywJ | apply csI | apply csJ | apply cswI | apply cswJ); assumption)) only [f_X2_readOne_g, SR, SX, SC, LI, ↓li_m1, nI_add, pk_mul, nn_sub, nn_m1, nn_div, nn_rem, nn_nz, nn_mod, nJ_l, lN_add, lN_mul, nn_tb1, nI_bt, nn_and, nn_or, nn_xor, nn_shr, nn_1shl, nn_31, il_p, il_n, it_p, it_n, ie_p, ie_n, ie_b, ie_b1, ie_m, ie_mm, it_m, it_m0, il_m0, bI_rZ, Option.bind_some, bd2_some, Nat.add_zero, Nat.zero_add, if_true, if_false, Bool.false_eq_true, eq_self, hI_R, hJ_R, ng_t, ng_e, hoq, hod, e10, if_neg n20, if_neg n4, h6, r, ad, cp], (f4_51 f1).tr (f4.mono (by decide) (by decide) (by decide) (by decide)), lc_fr f4 (by simp) (by simp) lc1, fun y hy => ?_, fun w hw => ?_⟩
          · rw [wJ_s, setF_out (by omega), f1.J 51 (by decide)]
          · have q2 := xs.2.2.2.2.2 v w vb hw
            rw [wJ_s, setF_in (by omega), f1.J 49 (by decide), show v * 4 + w / 64 = 4 * v + w / 64 by omega]
            exact q2
/-- the class's conditions -/
theorem x_cond {h : aH} {c : Nat} {T : Nat → Nat} {n m i : Nat} {A : Nat → Nat} {V : Nat → List Nat} {P : WS} (a1 : A 1 ≤ 24) (nv : NV (cA A) V) (xs : XSc h c T n m i A V P) : OXc h T n m P 0 (f_X2_readEither h 42 (nI 0)) (pEi T n (pOn T n A (cA A) V 8 0) i) := by
  have bo := x_both (g1 := f_X2_rOne 8) (c := c) (T := T) (n := n) (m := m) (A := A) (V := V) (P := P) (lv := 0) (ob := 4) (p := pOn T n A (cA A) V 8 0) (by decide) (by decide) (fun h i xs => x_one a1 nv 8 0 (4 + 4) (by decide) (by decide) (by decide) h i xs)
  exact x_either (g1 := f_X2_readBoth_g (f_X2_rOne 8)) (lv := 0) (ob := 0) (by decide) (by decide) bo h i xs
