/-! ===== a sitting: the reference's loop, on ===== -/
theorem r_loop {h : aH} {A : Nat → Nat} {P : Nat → Bool} {Q : Nat → Nat → Bool} {S : Nat → Nat → Nat → Nat → Nat} {t0 : MT} (r8 : R8 h A P Q S t0) (hw : WF A) (gm : GM A t0) (d0 : t0.2.1 = 0) {tr : Nat} {tk : Nat → Nat} (e40 : h.2.1 113 40 = nI tr) (e41 : h.2.1 113 41 = nI 2) (e132 : ∀ v, v < A 4 → h.2.1 132 v = nI (tk v)) (ht : tr < A 2) (hpt : P tr = true) (hkk : ∀ v, v < A 4 → tk v < 4) (hS : ∀ v q, v < A 4 → q < A 3 → S v q tr (tk v) < 2 * A 3) {K : Nat → Nat → Nat} {N : Nat} (pr : PR h K N) {W F G B : Nat → Nat} {ns : Nat} (pk : PK A K N W F G B ns) (x1 x2 : Int32) : ∃ h', f_X12_sits_l80 113 x1 x2 (nI 0) h = some h' ∧ ∃ t e, FR h h' [114, 129, 130] [] [] [41] ∧ KP h h' ∧ R8 h' A P Q S t ∧ GM A t ∧ h'.2.1 113 41 = nI e ∧ rcE A P Q S tr (rcS A P Q S tr tk W F G B t0 ns) = (e, t) := by
  obtain ⟨pn, n60, n30, pk⟩ := pk
  have smono : ∀ i, i ≤ N → sgK K i ≤ ns := fun i hi => by rw [pn]; exact cntB_mono hi
  refine whl0 (fun i (s : Int32 × aH) => ∃ g, (∃ k fr t, s = (nI k, g) ∧ i ≤ k ∧ k ≤ N ∧ FR h g [114, 129, 130] [] [] [41] ∧ KP h g ∧ R8 g A P Q S t ∧ GM A t ∧ g.2.1 113 41 = nI 2 ∧ fr ≤ sgK K k ∧ t.2.1 ≤ sgK K k ∧ rcS A P Q S tr tk W F G B t0 (sgK K k) = .inl (fr, t)) ∨ (s = (m1, g) ∧ 0 < i ∧ i ≤ N ∧ ∃ t e, FR h g [114, 129, 130] [] [] [41] ∧ KP h g ∧ R8 g A P Q S t ∧ GM A t ∧ g.2.1 113 41 = nI e ∧ rcE A P Q S tr (rcS A P Q S tr tk W F G B t0 ns) = (e, t))) _ N (by omega) ⟨h, Or.inl ⟨0, 0, t0, rfl, Nat.le_refl _, Nat.zero_le _, FR.rf, kp_rf, r8, gm, e41, Nat.zero_le _, by omega, rfl⟩⟩ ?_
  rintro i _ ⟨g, ⟨k, fr, t, rfl, hik, hkN, fg, kg, g8, ggm, g41, hfr, hd, hrc⟩ | ⟨rfl, hi0, hiN, t, e, fg, kg, g8, ggm, g41, he⟩⟩ hi
  · have hl := g8.1
    have prg := pr_kp kg pr
    have u0 : gR g 12 113 0 = some 114 := gR_L hl (by decide) (by decide) (by decide +kernel)
    have w7 : lI g 114 (7 : Int32) = some (nI N) := (lI_L hl (j := 7) (by decide) (by decide)).trans (congrArg some prg.1)
    have ck0 : ck g 12 113 = some () := ck_L hl (by decide) (by decide)
    have n1 : ¬ nI k = (-1 : Int32) := fun e => nI_pos (n := k) (by omega) (by rw [e]; decide)
    rcases Nat.lt_or_ge k N with u | u
    · have n2 : ¬ nI N ≤ nI k := nI_ge u (by omega)
      have bd : ∀ r, f_X12_doesStep g 113 (nI k) = some r → f_X12_sits_b80 113 x1 x2 (nI k) g = some (.inl r) := fun r hr => by
        unfold f_X12_sits_b80
        rw [if_neg n1, u0, Option.bind_some, w7, Option.bind_some, if_neg n2, ck0, Option.bind_some, hr, bd2_some]
      have g40 : g.2.1 113 40 = nI tr := (fg.2.2.2.2.2 40 (by decide)).trans e40
      have g132 : ∀ v, v < A 4 → g.2.1 132 v = nI (tk v) := fun v hv => by rw [fg.I 132 (by decide) (by decide) (by decide)]; exact e132 v hv
      have sle := smono k (by omega)
      have nsf : ¬ sgK K k < fr := by omega
      rcases (Bool.eq_false_or_eq_true (clB K k)).symm with hc | hc
      · have st := sg_t hc
        have nx := rc_s hrc
        rw [if_neg nsf] at nx
        have sl1 := smono (k + 1) (by omega)
        rcases pk k u hc with ⟨z, z1, z2, z3, z4, z5⟩ | ⟨z, z1, z2, z3⟩ | ⟨z, z1⟩ | ⟨z, z1, z2, z3⟩ | ⟨x, x4, z, z1, z2, z3, z4, z5, z6, z7, z8⟩
        · obtain ⟨g', r, f', k', r'⟩ := d_ask g8 hw ggm g40 g132 ht hpt hkk prg u n60 z z4 z5
          rw [z1, if_pos rfl, z2, z3] at nx
          refine Or.inl ⟨_, bd _ r, by omega, g', Or.inl ⟨k + 1, fr, _, rfl, by omega, by omega, fg.tr (f'.mono (by decide) (by decide) (by decide) (by decide)), kp_tr kg k', r', gm_put hw ggm z4 z5 (hS _ _ z4 z5), (f'.2.2.2.2.2 41 List.not_mem_nil).trans g41, by omega, by rw [pu_day]; omega, by rw [st]; exact nx⟩⟩
        · obtain ⟨g', r, f', k', r'⟩ := d_best g8 hw ggm g40 g132 ht hpt hkk prg u n60 z z3
          rw [z1, if_neg (by decide), if_pos rfl, z2] at nx
          have gm' : GM A (puS S tr tk (K k 1) (bsO A P S (K k 1) t) t) := by
            cases hb : bsO A P S (K k 1) t with
            | none => exact ggm
            | some y => exact gm_put hw ggm z3 (bs_lt y hb) (hS _ _ z3 (bs_lt y hb))
          refine Or.inl ⟨_, bd _ r, by omega, g', Or.inl ⟨k + 1, fr, _, rfl, by omega, by omega, fg.tr (f'.mono (by decide) (by decide) (by decide) (by decide)), kp_tr kg k', r', gm', (f'.2.2.2.2.2 41 List.not_mem_nil).trans g41, by omega, by rw [pu_day]; omega, by rw [st]; exact nx⟩⟩
        · obtain ⟨g', r, f', k', r'⟩ := d_next g8 prg u n60 z
          rw [z1, if_neg (by decide), if_neg (by decide), if_pos rfl] at nx
          refine Or.inl ⟨_, bd _ r, by omega, g', Or.inl ⟨k + 1, fr, _, rfl, by omega, by omega, fg.tr (f'.mono (by decide) (by decide) (by decide) (by decide)), kp_tr kg k', r', gm_day ggm (by omega), (f'.2.2.2.2.2 41 List.not_mem_nil).trans g41, by omega, by show t.2.1 + 1 ≤ _; omega, by rw [st]; exact nx⟩⟩
        · obtain ⟨g', r, f', k', r', e41'⟩ := d_rule g8 hw ggm g40 ht prg u n60 z z3
          rw [z1, if_neg (by decide), if_neg (by decide), if_neg (by decide), if_pos rfl, z2] at nx
          have nx' := rc_r nx (ns - (sgK K k + 1))
          rw [show sgK K k + 1 + (ns - (sgK K k + 1)) = ns by omega] at nx'
          exact Or.inl ⟨_, bd _ r, by omega, g', Or.inr ⟨rfl, by omega, by omega, t, _, fg.tr (f'.mono (by decide) (by decide) (by decide) (by decide)), kp_tr kg k', r', ggm, e41', by rw [nx']; rfl⟩⟩
        · obtain ⟨g', r, f', k', r'⟩ := d_when g8 hw ggm prg u n60 x4 z z3 z4
          rw [z1, if_neg (by omega), if_neg (by omega), if_neg (by omega), if_neg (by omega), show 30 + x - 30 = x by omega, z2] at nx
          have ff := fg.tr (f'.mono (cI := [129, 130]) (dI := [114, 129, 130]) (by decide) (dJ := []) (by decide) (g0 := []) (by decide) (g1 := [41]) (by decide))
          have m41 := (f'.2.2.2.2.2 41 List.not_mem_nil).trans g41
          cases hb : paB A P Q S x (K k 1) t
          · rw [hb] at r nx
            rw [if_neg (by decide), z8] at nx
            have se := sg_f z7
            have m2 : sgK K (k + 1) ≤ sgK K (K k 3) := cntB_mono (by omega)
            have sk := rc_skip nx (sgK K (K k 3) - (sgK K k + 1)) (by omega)
            rw [show sgK K k + 1 + (sgK K (K k 3) - (sgK K k + 1)) = sgK K (K k 3) by omega] at sk
            exact Or.inl ⟨_, bd _ r, by omega, g', Or.inl ⟨K k 3 + 1, sgK K (K k 3), t, rfl, by omega, by omega, ff, kp_tr kg k', r', ggm, m41, by omega, by omega, by rw [se]; exact sk⟩⟩
          · rw [hb] at r nx
            rw [if_pos rfl] at nx
            exact Or.inl ⟨_, bd _ r, by omega, g', Or.inl ⟨k + 1, fr, t, rfl, by omega, by omega, ff, kp_tr kg k', r', ggm, m41, by omega, by omega, by rw [st]; exact nx⟩⟩
      · have r := d_close hl prg u n60 (by unfold clB at hc; simpa using hc)
        have sf := sg_f hc
        exact Or.inl ⟨_, bd _ r, by omega, g, Or.inl ⟨k + 1, fr, t, rfl, by omega, by omega, fg, kg, g8, ggm, g41, by omega, by omega, by rw [sf]; exact hrc⟩⟩
    · obtain rfl : k = N := by omega
      refine Or.inr ⟨g, ?_, t, 2, fg, kg, g8, ggm, g41, ?_⟩
      · unfold f_X12_sits_b80
        rw [if_neg n1, u0, Option.bind_some, w7, Option.bind_some, if_pos (show nI k ≤ nI k from nI_le (Nat.le_refl _) (by omega))]
      · rw [pn, hrc]
        rfl
  · refine Or.inr ⟨g, ?_, t, e, fg, kg, g8, ggm, g41, he⟩
    unfold f_X12_sits_b80
    rw [if_pos (show m1 = (-1 : Int32) from rfl)]
