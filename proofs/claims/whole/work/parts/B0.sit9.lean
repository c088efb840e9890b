/-! ===== a sitting: the reference rules ===== -/
theorem r_rules {h : aH} {A : Nat → Nat} {P : Nat → Bool} {Q : Nat → Nat → Bool} {S : Nat → Nat → Nat → Nat → Nat} {t : MT} (r8 : R8 h A P Q S t) (hw : WF A) (gm : GM A t) {tr q : Nat} (e40 : h.2.1 113 40 = nI tr) (ht : tr < A 2) (hq : q < A 3) : ∃ h', f_X12_rules h 113 (nI q) = some h' ∧ FR h h' [129, 130] [] [] [41] ∧ KP h h' ∧ R8 h' A P Q S t ∧ h'.2.1 113 41 = nI (juN A P Q S tr q t) := by
  obtain ⟨hl, hc, hm, hs⟩ := id r8
  obtain ⟨b0, b1, b2l, b2, b3, b4⟩ := wf_b hw
  obtain ⟨mw, di, td⟩ := id gm
  obtain ⟨g, e, fg, lg, cg, mg, sg, fb, pu, rl, rs⟩ := r_all hl hc hw hm mw hs
  have fg' : FR h g [129, 130] [] [] [41] := fg.mono (by decide) (by decide) (by decide) (by decide)
  have k0 : ck h 12 113 = some () := ck_L hl (by decide) (by decide)
  have k1 : ck g 12 113 = some () := ck_L lg (by decide) (by decide)
  have u40 : gI g 12 113 40 = some (nI tr) := (gI_L lg 40 (by decide) (by decide)).trans (congrArg some ((fg.2.2.2.2.2 40 List.not_mem_nil).trans e40))
  have ri := r_isIn lg cg (q := q) (w := tr) (by omega) (by omega)
  have rq : f_X12_sureAt g 113 (0 : Int32) (nI q) = some (crT A P Q S t q) := rs q hq
  have j48 : ∀ b : Bool, f_X12_rules_j48 g 113 (nI q) (bI b) = some (hI g 113 41 (nI (if b = Q q tr then 0 else 1))) := fun b => by
    have p0 : pI g 12 113 41 (0 : Int32) = some (hI g 113 41 (nI 0)) := pI_L lg 41 _ (by decide) (by decide)
    have p1 : pI g 12 113 41 (1 : Int32) = some (hI g 113 41 (nI 1)) := pI_L lg 41 _ (by decide) (by decide)
    unfold f_X12_rules_j48
    rw [u40, Option.bind_some, k1, Option.bind_some, ri, Option.bind_some]
    cases b <;> cases Q q tr
    · rw [if_pos rfl, p0, Option.bind_some, if_pos rfl]
    · rw [if_neg (by decide), p1, Option.bind_some, if_neg (by decide)]
    · rw [if_neg (by decide), p1, Option.bind_some, if_neg (by decide)]
    · rw [if_pos rfl, p0, Option.bind_some, if_pos rfl]
  have fin : ∀ b : Bool, (if crT A P Q S t q = m1 then decide (waN A P (FT A P S t.2.2 t.1) (selB m1 m1) (fun _ => true) (A 2) ≤ 2 * waN A P (FT A P S t.2.2 t.1) (selB m1 m1) (Q q) (A 2)) else decide (crT A P Q S t q = nI 1)) = b → f_X12_rules h 113 (nI q) = some (hI g 113 41 (nI (if b = Q q tr then 0 else 1))) → ∃ h', f_X12_rules h 113 (nI q) = some h' ∧ FR h h' [129, 130] [] [] [41] ∧ KP h h' ∧ R8 h' A P Q S t ∧ h'.2.1 113 41 = nI (juN A P Q S tr q t) := fun b hb hr => by
    refine ⟨_, hr, fg'.tr (fr_1 (by decide)), kp_tr (kp_fr fg (by decide)) ⟨fun _ _ => rfl, rfl⟩, ⟨lg, cg, mg, sg⟩, ?_⟩
    rw [rI_eq]
    unfold juN
    rw [hb]
  by_cases h1 : crT A P Q S t q = nI 1
  · refine fin true (by rw [if_neg (by rw [h1]; decide), decide_eq_true h1]) ?_
    unfold f_X12_rules
    rw [k0, Option.bind_some, e, Option.bind_some, k1, Option.bind_some, rq, Option.bind_some, h1, if_pos (by decide)]
    unfold f_X12_rules_j43
    exact j48 true
  · by_cases hz : crT A P Q S t q = m1
    · have w1 := r_weightAll lg cg hw fb FT_lt m1 (nI 0) (nI q) (qs := Q q) (Or.inr ⟨q, hq, rfl, fun _ => rfl⟩)
      have w2 := r_weightAll lg cg hw fb FT_lt m1 (nI 0) m1 (qs := fun _ => true) (Or.inl ⟨rfl, fun _ => rfl⟩)
      rw [wa_m1 hw (y := m1)] at w1 w2
      have w1' : f_X12_weightAll g 113 (-1 : Int32) (0 : Int32) (nI q) = some (lN (waN A P (FT A P S t.2.2 t.1) (selB m1 m1) (Q q) (A 2))) := w1
      have w2' : f_X12_weightAll g 113 (-1 : Int32) (0 : Int32) (-1 : Int32) = some (lN (waN A P (FT A P S t.2.2 t.1) (selB m1 m1) (fun _ => true) (A 2))) := w2
      have tw := two_l (wa_lt2 hw (P := P) (F := FT A P S t.2.2 t.1) (sel := selB m1 m1) (qs := Q q)) (wa_lt hw (P := P) (F := FT A P S t.2.2 t.1) (sel := selB m1 m1) (qs := fun _ => true))
      have hd : f_X12_rules h 113 (nI q) = if (lg_cmp ((2 : Int64) * lN (waN A P (FT A P S t.2.2 t.1) (selB m1 m1) (Q q) (A 2))) (lN (waN A P (FT A P S t.2.2 t.1) (selB m1 m1) (fun _ => true) (A 2)))) < (0 : Int32) then f_X12_rules_j47 g 113 (nI q) else f_X12_rules_j43 g 113 (nI q) := by
        unfold f_X12_rules
        rw [k0, Option.bind_some, e, Option.bind_some, k1, Option.bind_some, rq, Option.bind_some, hz, if_neg (by decide), if_pos (by decide), Option.bind_some, w1', Option.bind_some, Option.bind_some, w2', Option.bind_some]
      by_cases hx : waN A P (FT A P S t.2.2 t.1) (selB m1 m1) (fun _ => true) (A 2) ≤ 2 * waN A P (FT A P S t.2.2 t.1) (selB m1 m1) (Q q) (A 2)
      · refine fin true (by rw [if_pos hz, decide_eq_true hx]) ?_
        rw [hd, if_neg (fun e => by have := tw.mp e; omega)]
        unfold f_X12_rules_j43
        exact j48 true
      · refine fin false (by rw [if_pos hz, decide_eq_false hx]) ?_
        rw [hd, if_pos (show lg_cmp ((2 : Int64) * lN (waN A P (FT A P S t.2.2 t.1) (selB m1 m1) (Q q) (A 2))) (lN (waN A P (FT A P S t.2.2 t.1) (selB m1 m1) (fun _ => true) (A 2))) < (0 : Int32) from tw.mpr (by omega))]
        unfold f_X12_rules_j47
        exact j48 false
    · refine fin false (by rw [if_neg hz, decide_eq_false h1]) ?_
      unfold f_X12_rules
      rw [k0, Option.bind_some, e, Option.bind_some, k1, Option.bind_some, rq, Option.bind_some, if_neg (show ¬ crT A P Q S t q = (1 : Int32) from h1), if_neg (show ¬ crT A P Q S t q = (-1 : Int32) from hz)]
      unfold f_X12_rules_j47
      exact j48 false
