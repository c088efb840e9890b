/-! ===== a sitting: the reference's steps ===== -/
def R8 (h : aH) (A : Nat → Nat) (P : Nat → Bool) (Q : Nat → Nat → Bool) (S : Nat → Nat → Nat → Nat → Nat) (t : MT) : Prop := LAY h ∧ CM h A P Q ∧ MM h t.1 t.2.1 t.2.2 ∧ SY h A P S
/-- the plan's rows stay -/
def KP (h h' : aH) : Prop := (∀ k, 148 ≤ k → h'.2.1 114 k = h.2.1 114 k) ∧ h'.2.1 114 7 = h.2.1 114 7
theorem kp_rf {h : aH} : KP h h := ⟨fun _ _ => rfl, rfl⟩
theorem kp_tr {h g k : aH} (a : KP h g) (b : KP g k) : KP h k := ⟨fun x hx => (b.1 x hx).trans (a.1 x hx), b.2.trans a.2⟩
theorem kp_fr {h h' : aH} {cI cJ f0 f1 : List Nat} (hf : FR h h' cI cJ f0 f1) (h1 : 114 ∉ cI) : KP h h' := by
  unfold KP
  rw [hf.I 114 h1 (by decide) (by decide)]
  exact ⟨fun _ _ => rfl, rfl⟩
theorem r_puts {h : aH} {A : Nat → Nat} {P : Nat → Bool} {Q : Nat → Nat → Bool} {S : Nat → Nat → Nat → Nat → Nat} {t : MT} (r8 : R8 h A P Q S t) (hw : WF A) (gm : GM A t) {tr : Nat} {tk : Nat → Nat} (e40 : h.2.1 113 40 = nI tr) (e132 : ∀ v, v < A 4 → h.2.1 132 v = nI (tk v)) (ht : tr < A 2) (hpt : P tr = true) (hk : ∀ v, v < A 4 → tk v < 4) {v : Nat} (hv : v < A 4) (q : Option Nat) (hq : ∀ x, q = some x → x < A 3) : ∃ h', f_X12_puts h 113 (nI v) (match q with | some x => nI x | none => m1) = some h' ∧ FR h h' [114, 129, 130] [] [] [] ∧ KP h h' ∧ R8 h' A P Q S (puS S tr tk v q t) := by
  obtain ⟨hl, hc, hm, hs⟩ := id r8
  obtain ⟨b0, b1, b2l, b2, b3, b4⟩ := wf_b hw
  obtain ⟨mw, di, td⟩ := id gm
  obtain ⟨g, e, fg, lg, cg, mg, sg, fb, pu, rl, rs⟩ := r_all hl hc hw hm mw hs
  have fg' : FR h g [114, 129, 130] [] [] [] := fg.mono (by decide) (by decide) (by decide) (by decide)
  have ck0 : ck h 12 113 = some () := ck_L hl (by decide) (by decide)
  have ck1 : ck g 12 113 = some () := ck_L lg (by decide) (by decide)
  have kg : KP h g := kp_fr fg (by decide)
  have r8g : R8 g A P Q S t := ⟨lg, cg, mg, sg⟩
  cases q with
  | none =>
    refine ⟨g, ?_, fg', kg, r8g⟩
    show f_X12_puts h 113 (nI v) m1 = _
    unfold f_X12_puts
    rw [ck0, Option.bind_some, e, Option.bind_some, if_pos (show m1 = (-1 : Int32) from rfl)]
  | some q =>
    have qb := hq q rfl
    have n1 : ¬ nI q = (-1 : Int32) := fun e => nI_pos (n := q) (by omega) (by rw [e]; decide)
    have v35 : gR g 12 113 35 = some 130 := gR_L lg (by decide) (by decide) (by decide +kernel)
    have z : lZ g 130 (nI q) = some (bI (putN t.2.2 t.1 q)) := (lZ_L lg (by decide) (show q < 48 by omega)).trans (congrArg some (pu q (by omega)))
    have r2 := r_putToday lg cg hw mg mw
    have d9 := di.1
    have cl := cntB_le (fun k => t.2.2 k 3 == t.2.1) t.1
    show ∃ h', f_X12_puts h 113 (nI v) (nI q) = some h' ∧ _
    rcases (Bool.eq_false_or_eq_true (putN t.2.2 t.1 q)).symm with hp | hp
    · rw [hp] at z
      by_cases h9 : 9 ≤ cntB (fun k => t.2.2 k 3 == t.2.1) t.1
      · have ee : puS S tr tk v (some q) t = t := by
          rw [pu_s]
          unfold tdN
          rw [decide_eq_true h9, Bool.or_true, if_pos rfl]
        rw [ee]
        refine ⟨g, ?_, fg', kg, r8g⟩
        unfold f_X12_puts
        rw [ck0, Option.bind_some, e, Option.bind_some, if_neg n1, v35, Option.bind_some, z, Option.bind_some, if_pos (by decide), ck1, Option.bind_some, r2, Option.bind_some, if_pos (show nI (cntB (fun k => t.2.2 k 3 == t.2.1) t.1) = (9 : Int32) from by rw [show cntB (fun k => t.2.2 k 3 == t.2.1) t.1 = 9 by omega]; rfl)]
      · have ee : puS S tr tk v (some q) t = (t.1 + 1, t.2.1, adM t.2.2 t.1 v q (S v q tr (tk v)) t.2.1) := by
          rw [pu_s]
          unfold tdN
          rw [hp, decide_eq_false h9, if_neg (by decide)]
        have ha := (hs v q tr (tk v) hv qb ht hpt (hk v hv)).2
        have gm' := gm_put (S := S) (tr := tr) (tk := tk) hw gm hv qb ha
        rw [ee] at gm' ⊢
        have u40 : gI g 12 113 40 = some (nI tr) := (gI_L lg 40 (by decide) (by decide)).trans (congrArg some ((fg.2.2.2.2.2 40 List.not_mem_nil).trans e40))
        have u42 : gR g 12 113 42 = some 132 := gR_L lg (by decide) (by decide) (by decide +kernel)
        have uk : lI g 132 (nI v) = some (nI (tk v)) := (lI_L lg (by decide) (show v < 4 by omega)).trans (congrArg some (by rw [fg.I 132 (by decide) (by decide) (by decide)]; exact e132 v hv))
        have us := r_saysAs lg (v := v) (q := q) (w := tr) (k := tk v) (by omega) (by omega) (by omega) (hk v hv)
        rw [(sg v q tr (tk v) hv qb ht hpt (hk v hv)).1] at us
        obtain ⟨k1, e6, f2, cm2, mm2, s1, s2⟩ := r_hears lg cg hw mg mw (v := v) (q := q) (a := S v q tr (tk v)) gm'.1.1
        have n9 : ¬ nI (cntB (fun k => t.2.2 k 3 == t.2.1) t.1) = (9 : Int32) := fun e => h9 (by
          have := (nI_eq (a := cntB (fun k => t.2.2 k 3 == t.2.1) t.1) (b := 9) (by have := mw.1; omega) (by decide)).mp e
          omega)
        refine ⟨k1, ?_, fg'.tr (f2.mono (by decide) (by decide) (by decide) (by decide)), kp_tr kg ⟨fun k hk => s1 k (by omega) (by omega), s2⟩, f2.lay lg, cm2, mm2, sy_fr f2 (by decide) sg⟩
        unfold f_X12_puts
        rw [ck0, Option.bind_some, e, Option.bind_some, if_neg n1, v35, Option.bind_some, z, Option.bind_some, if_pos (by decide), ck1, Option.bind_some, r2, Option.bind_some, if_neg n9, u40, Option.bind_some, u42, Option.bind_some, uk, Option.bind_some, Option.bind_some, us, Option.bind_some, Option.bind_some, e6, Option.bind_some]
    · rw [hp] at z
      have ee : puS S tr tk v (some q) t = t := by rw [pu_s, hp, Bool.true_or, if_pos rfl]
      rw [ee]
      refine ⟨g, ?_, fg', kg, r8g⟩
      unfold f_X12_puts
      rw [ck0, Option.bind_some, e, Option.bind_some, if_neg n1, v35, Option.bind_some, z, Option.bind_some, if_neg (by decide)]
