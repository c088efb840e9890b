/-! ===== a case that nothing holds ===== -/
theorem x_marked {h : aH} (hl : LAY h) {K : Nat} (K3 : K ≤ 3) (k1 : h.2.1 0 14 = nI K) {ci : Nat → Nat} (hc : ∀ i, i < K → h.2.2.2 (77 + 12 * i) 2 = some (ci i)) {t : Nat} : f_X11_isMarked h 0 t = some (bI (anyB (fun i => decide (ci i = t)) K)) := by
  have := srch (body := fun q : Int32 => f_X11_isMarked_b2 h 0 t q) (s := nI 0) (fun j => nI j) (fun i => decide (ci i = t)) K (fun _ => (Sum.inl () : Unit ⊕ Unit)) (Sum.inr ()) rfl (by omega) (fun j hj hx => ?_) (fun j hj hx => ?_) ?_
  · have e : f_X11_isMarked_l2 h 0 t (nI 0) = _ := this
    rw [anyB_first]
    cases hf : firstB (fun i => decide (ci i = t)) K with
    | none =>
      rw [hf] at e
      rw [show (none : Option Nat).isSome = false from rfl, bI_f]
      simp (disch := first | assumption | omega | decide | ((repeat first | apply lyI | apply lyJ | apply lywI | apply lywJ | apply csI | apply csJ | apply cswI | apply cswJ); assumption)) only [f_X11_isMarked, LI, ↓li_m1, nI_add, pk_mul, nn_sub, nn_m1, nn_div, nn_rem, nn_nz, nn_mod, nJ_l, lN_add, lN_mul, nn_tb1, nI_bt, nn_and, nn_or, nn_xor, nn_shr, nn_1shl, nn_31, il_p, il_n, it_p, it_n, ie_p, ie_n, ie_b, ie_b1, ie_m, ie_mm, it_m, it_m0, il_m0, bI_rZ, Option.bind_some, bd2_some, Nat.add_zero, Nat.zero_add, if_true, if_false, Bool.false_eq_true, eq_self, hI_R, hJ_R, ng_t, ng_e, e]
    | some j =>
      rw [hf] at e
      rw [show (some j : Option Nat).isSome = true from rfl, bI_t]
      simp (disch := first | assumption | omega | decide | ((repeat first | apply lyI | apply lyJ | apply lywI | apply lywJ | apply csI | apply csJ | apply cswI | apply cswJ); assumption)) only [f_X11_isMarked, LI, ↓li_m1, nI_add, pk_mul, nn_sub, nn_m1, nn_div, nn_rem, nn_nz, nn_mod, nJ_l, lN_add, lN_mul, nn_tb1, nI_bt, nn_and, nn_or, nn_xor, nn_shr, nn_1shl, nn_31, il_p, il_n, it_p, it_n, ie_p, ie_n, ie_b, ie_b1, ie_m, ie_mm, it_m, it_m0, il_m0, bI_rZ, Option.bind_some, bd2_some, Nat.add_zero, Nat.zero_add, if_true, if_false, Bool.false_eq_true, eq_self, hI_R, hJ_R, ng_t, ng_e, e]
  · obtain ⟨m1', m2', m3', m4'⟩ := rt_m j (by omega)
    have y1 := lq_m hl (i := j) (by omega)
    have y2 : gR h 5 (77 + 12 * j) 2 = some (ci j) := by rw [gR_D hl 2 m2' (by decide)]; exact hc j hj
    have ne : ¬ ci j = t := by simpa using hx
    simp (disch := first | assumption | omega | decide | ((repeat first | apply lyI | apply lyJ | apply lywI | apply lywJ | apply csI | apply csJ | apply cswI | apply cswJ); assumption)) only [f_X11_isMarked_b2, S0, LI, ↓li_m1, nI_add, pk_mul, nn_sub, nn_m1, nn_div, nn_rem, nn_nz, nn_mod, nJ_l, lN_add, lN_mul, nn_tb1, nI_bt, nn_and, nn_or, nn_xor, nn_shr, nn_1shl, nn_31, il_p, il_n, it_p, it_n, ie_p, ie_n, ie_b, ie_b1, ie_m, ie_mm, it_m, it_m0, il_m0, bI_rZ, Option.bind_some, bd2_some, Nat.add_zero, Nat.zero_add, if_true, if_false, Bool.false_eq_true, eq_self, hI_R, hJ_R, ng_t, ng_e, k1, y1, y2, if_neg ne]
  · obtain ⟨m1', m2', m3', m4'⟩ := rt_m j (by omega)
    have y1 := lq_m hl (i := j) (by omega)
    have y2 : gR h 5 (77 + 12 * j) 2 = some (ci j) := by rw [gR_D hl 2 m2' (by decide)]; exact hc j hj
    have ee : ci j = t := by simpa using hx
    simp (disch := first | assumption | omega | decide | ((repeat first | apply lyI | apply lyJ | apply lywI | apply lywJ | apply csI | apply csJ | apply cswI | apply cswJ); assumption)) only [f_X11_isMarked_b2, S0, LI, ↓li_m1, nI_add, pk_mul, nn_sub, nn_m1, nn_div, nn_rem, nn_nz, nn_mod, nJ_l, lN_add, lN_mul, nn_tb1, nI_bt, nn_and, nn_or, nn_xor, nn_shr, nn_1shl, nn_31, il_p, il_n, it_p, it_n, ie_p, ie_n, ie_b, ie_b1, ie_m, ie_mm, it_m, it_m0, il_m0, bI_rZ, Option.bind_some, bd2_some, Nat.add_zero, Nat.zero_add, if_true, if_false, Bool.false_eq_true, eq_self, hI_R, hJ_R, ng_t, ng_e, k1, y1, y2, if_pos ee]
  · simp (disch := first | assumption | omega | decide | ((repeat first | apply lyI | apply lyJ | apply lywI | apply lywJ | apply csI | apply csJ | apply cswI | apply cswJ); assumption)) only [f_X11_isMarked_b2, S0, LI, ↓li_m1, nI_add, pk_mul, nn_sub, nn_m1, nn_div, nn_rem, nn_nz, nn_mod, nJ_l, lN_add, lN_mul, nn_tb1, nI_bt, nn_and, nn_or, nn_xor, nn_shr, nn_1shl, nn_31, il_p, il_n, it_p, it_n, ie_p, ie_n, ie_b, ie_b1, ie_m, ie_mm, it_m, it_m0, il_m0, bI_rZ, Option.bind_some, bd2_some, Nat.add_zero, Nat.zero_add, if_true, if_false, Bool.false_eq_true, eq_self, hI_R, hJ_R, ng_t, ng_e, k1]
theorem inv_R11 {h : aH} {i c : Nat} (hi : i < 5) (hs : CS h c) (al : ALc c) (iv : Inv h) : Inv (hR h 11 i (some c)) := by
  obtain ⟨i1, ⟨b, p, i2⟩, i3, i4, i5, i6, i7, i8, i9, i10, i11, i12⟩ := iv
  have ks : ∀ s, KS h (hR h 11 i (some c)) s s := fun s => ⟨fun _ _ => rfl, fun _ _ => rfl, fun _ _ => rfl⟩
  have kc : ∀ c', KC h (hR h 11 i (some c)) c' := fun c' => kc_R (by decide) (by decide) (by decide)
  have rt : ∀ q ∈ RT0, ¬ (q.1 = 11 ∧ q.2.1 = i) := by
    have : ∀ q ∈ RT0, q.1 ≠ 11 := by decide +kernel
    exact fun q hq z => this q hq z.1
  refine ⟨lay_Rg rt i1, ⟨b, p, pb_k (kc _) (ks 0) (fun _ _ _ => rfl) rfl (rR_ne (by omega)) (rR_ne (by omega)) i2.2.2.2.2.2.2.2.1 i2.2.2.2.2.2.2.2.2.2.1 ?_ ?_ i2⟩, mks_k ⟨fun j hj => rR_ne (by omega), fun _ _ _ => rfl, fun s _ _ => ks s, rfl, rfl⟩ (fun j b _ => kc b.c) i3, ⟨i4.1, fun j hj c' hc' => ?_⟩, i5, i6, i7, i8, i9, i10, i11, i12⟩
  · rw [rR_ne (by omega)]
    exact i2.2.2.2.2.2.2.2.2.2.2.1
  · rw [rR_ne (by omega)]
    exact i2.2.2.2.2.2.2.2.2.2.2.2
  · by_cases e : j = i
    · subst e
      rw [rR_eq] at hc'
      obtain rfl := Option.some.inj hc'
      exact ⟨(kc _).2.2 hs, al⟩
    · rw [rR_ne (by omega)] at hc'
      exact ⟨(kc c').2.2 (i4.2 j hj c' hc').1, (i4.2 j hj c' hc').2⟩
theorem x_init {h : aH} (iv : Inv h) : ∃ g, f_X1_init (hN h 1 19) h.1.length = some g ∧ Inv g ∧ CS g h.1.length ∧ ALc h.1.length ∧ (∀ y, y < 136 → g.2.1 y = h.2.1 y ∧ g.2.2.2 y = h.2.2.2 y) := by
  have i1 := iv.1
  have i4 := iv.2.2.2.1
  have ln : 136 ≤ h.1.length := by
    obtain ⟨⟨ext, e1⟩, -⟩ := i1
    rw [e1, List.length_append, SH0_len]
    omega
  obtain ⟨g, e, ex, sg⟩ := x_init1 (h := h) rfl ln
  obtain ⟨g2, e2, f2, -⟩ := x_clear sg
  have ck' : ck g 1 h.1.length = some () := (SC g _ sg).1
  have ex2 : EXt h g2 ((SH0.drop 26).take 16) := by
    refine ⟨by rw [f2.1]; exact ex.1, fun y hy => ?_⟩
    obtain ⟨a1, a2, a3⟩ := ex.2 y hy
    refine ⟨?_, by rw [f2.J y (by simp)]; exact a2, by rw [f2.2.1]; exact a3⟩
    by_cases h0 : y = 0
    · subst h0
      rw [← a1]
      exact funext fun k => f2.2.2.2.2.1 k (by simp)
    · by_cases h1 : y = 113
      · subst h1
        rw [← a1]
        exact funext fun k => f2.2.2.2.2.2 k (by simp)
      · rw [f2.I y (by simp <;> omega) h0 h1]
        exact a1
  have lL : ((SH0.drop 26).take 16).length % 16 = 0 := by decide +kernel
  refine ⟨g2, ?_, inv_ext ex2 lL iv, cs_fr f2 sg, Or.inr ⟨ln, i4.1⟩, fun y hy => ⟨(ex2.2 y (by omega)).1, (ex2.2 y (by omega)).2.2⟩⟩
  rw [e, ck', Option.bind_some, e2, Option.bind_some]
theorem x_free {h : aH} (iv : Inv h) : ∃ c h5 K, f_X11_freeCase h 0 = some (c, h5) ∧ Inv h5 ∧ CS h5 c ∧ ALc c ∧ h5.2.2.2 0 11 ≠ some c ∧ K ≤ 3 ∧ h5.2.1 0 14 = nI K ∧ (∀ i, i < K → h5.2.2.2 (77 + 12 * i) 2 ≠ some c) ∧ h5.2.1 4 6 = h.2.1 4 6 := by
  obtain ⟨i1, ⟨b, p, i2⟩, ⟨K, K3, k1, k2, k3⟩, i4, -⟩ := id iv
  have now := i2.1
  have hl := i1
  let ci := fun i => (h.2.2.2 (77 + 12 * i) 2).getD 0
  have hci : ∀ i, i < K → h.2.2.2 (77 + 12 * i) 2 = some (ci i) ∧ ci i + 15 < h.1.length := fun i hi => by
    obtain ⟨bi, mb⟩ := k3 i hi
    have e := mb.1
    have e2 : ci i = bi.c := by
      show (h.2.2.2 (77 + 12 * i) 2).getD 0 = _
      rw [e]
      rfl
    rw [e2]
    exact ⟨e, cs_len mb.2.1.1⟩
  have bl := cs_len i2.2.2.1.1
  let mk := fun t => anyB (fun i => decide (ci i = t)) K
  let ok := fun i => match h.2.2.2 11 i with
    | none => true
    | some t => !decide (t = b.c) && !mk t
  let ex := fun i => match h.2.2.2 11 i with
    | none => (Sum.inl (nI i) : Int32 ⊕ (Nat ⊕ Unit))
    | some t => .inr (.inl t)
  have lr : ∀ i, i < 5 → lR h 24 11 (nI i) = some (h.2.2.2 11 i) := fun i hi => by
    unfold lR
    rw [inb_L hl (t := 24) (a := 11) (j := i) rfl (by decide) hi (by decide), nI_clamp (by omega)]
    rfl
  have an : aN h 11 = some (nI 5) := aN_L hl (by decide)
  have mkE : ∀ t, f_X11_isMarked h 0 t = some (bI (mk t)) := fun t => x_marked hl K3 k1 (fun i hi => (hci i hi).1)
  have lp : f_X11_freeCase_l2 h 0 (nI 0) = some (match firstB ok 5 with | some j => ex j | none => .inr (.inr ())) := by
    refine srch (body := fun q : Int32 => f_X11_freeCase_b2 h 0 q) (s := nI 0) (fun j => nI j) ok 5 ex (Sum.inr (Sum.inr ())) rfl (by omega) (fun j hj hx => ?_) (fun j hj hx => ?_) ?_
    · have l := lr j hj
      cases hr : h.2.2.2 11 j with
      | none =>
        have : ok j = true := by
          show (match h.2.2.2 11 j with | none => true | some t => !decide (t = b.c) && !mk t) = true
          rw [hr]
        rw [this] at hx
        cases hx
      | some t =>
        have oj : ok j = (!decide (t = b.c) && !mk t) := by
          show (match h.2.2.2 11 j with | none => true | some t => !decide (t = b.c) && !mk t) = _
          rw [hr]
        rw [hr] at l
        rw [oj] at hx
        by_cases et : t = b.c
        · simp (disch := first | assumption | omega | decide | ((repeat first | apply lyI | apply lyJ | apply lywI | apply lywJ | apply csI | apply csJ | apply cswI | apply cswJ); assumption)) only [f_X11_freeCase_b2, f_X11_freeCase_j57, S0, LI, ↓li_m1, nI_add, pk_mul, nn_sub, nn_m1, nn_div, nn_rem, nn_nz, nn_mod, nJ_l, lN_add, lN_mul, nn_tb1, nI_bt, nn_and, nn_or, nn_xor, nn_shr, nn_1shl, nn_31, il_p, il_n, it_p, it_n, ie_p, ie_n, ie_b, ie_b1, ie_m, ie_mm, it_m, it_m0, il_m0, bI_rZ, Option.bind_some, bd2_some, Nat.add_zero, Nat.zero_add, if_true, if_false, Bool.false_eq_true, eq_self, hI_R, hJ_R, ng_t, ng_e, an, l, now, if_pos et]
        · rw [decide_eq_false et, show (!false) = true from rfl, Bool.true_and] at hx
          have mt : mk t = true := by simpa using hx
          have me := mkE t
          rw [mt, bI_t] at me
          simp (disch := first | assumption | omega | decide | ((repeat first | apply lyI | apply lyJ | apply lywI | apply lywJ | apply csI | apply csJ | apply cswI | apply cswJ); assumption)) only [f_X11_freeCase_b2, f_X11_freeCase_j57, S0, LI, ↓li_m1, nI_add, pk_mul, nn_sub, nn_m1, nn_div, nn_rem, nn_nz, nn_mod, nJ_l, lN_add, lN_mul, nn_tb1, nI_bt, nn_and, nn_or, nn_xor, nn_shr, nn_1shl, nn_31, il_p, il_n, it_p, it_n, ie_p, ie_n, ie_b, ie_b1, ie_m, ie_mm, it_m, it_m0, il_m0, bI_rZ, Option.bind_some, bd2_some, Nat.add_zero, Nat.zero_add, if_true, if_false, Bool.false_eq_true, eq_self, hI_R, hJ_R, ng_t, ng_e, an, l, now, if_neg et, me]
    · have l := lr j hj
      show f_X11_freeCase_b2 h 0 (nI j) = some (.inr (ex j))
      cases hr : h.2.2.2 11 j with
      | none =>
        have ej : ex j = .inl (nI j) := by
          show (match h.2.2.2 11 j with | none => (Sum.inl (nI j) : Int32 ⊕ (Nat ⊕ Unit)) | some t => .inr (.inl t)) = _
          rw [hr]
        rw [hr] at l
        rw [ej]
        simp (disch := first | assumption | omega | decide | ((repeat first | apply lyI | apply lyJ | apply lywI | apply lywJ | apply csI | apply csJ | apply cswI | apply cswJ); assumption)) only [f_X11_freeCase_b2, S0, LI, ↓li_m1, nI_add, pk_mul, nn_sub, nn_m1, nn_div, nn_rem, nn_nz, nn_mod, nJ_l, lN_add, lN_mul, nn_tb1, nI_bt, nn_and, nn_or, nn_xor, nn_shr, nn_1shl, nn_31, il_p, il_n, it_p, it_n, ie_p, ie_n, ie_b, ie_b1, ie_m, ie_mm, it_m, it_m0, il_m0, bI_rZ, Option.bind_some, bd2_some, Nat.add_zero, Nat.zero_add, if_true, if_false, Bool.false_eq_true, eq_self, hI_R, hJ_R, ng_t, ng_e, an, l]
      | some t =>
        have ej : ex j = .inr (.inl t) := by
          show (match h.2.2.2 11 j with | none => (Sum.inl (nI j) : Int32 ⊕ (Nat ⊕ Unit)) | some t => .inr (.inl t)) = _
          rw [hr]
        have oj : ok j = (!decide (t = b.c) && !mk t) := by
          show (match h.2.2.2 11 j with | none => true | some t => !decide (t = b.c) && !mk t) = _
          rw [hr]
        rw [hr] at l
        rw [oj] at hx
        have hx' : ¬ t = b.c ∧ mk t = false := by
          rw [Bool.and_eq_true] at hx
          exact ⟨by simpa using hx.1, by simpa using hx.2⟩
        have me := mkE t
        rw [hx'.2, bI_f] at me
        rw [ej]
        simp (disch := first | assumption | omega | decide | ((repeat first | apply lyI | apply lyJ | apply lywI | apply lywJ | apply csI | apply csJ | apply cswI | apply cswJ); assumption)) only [f_X11_freeCase_b2, S0, LI, ↓li_m1, nI_add, pk_mul, nn_sub, nn_m1, nn_div, nn_rem, nn_nz, nn_mod, nJ_l, lN_add, lN_mul, nn_tb1, nI_bt, nn_and, nn_or, nn_xor, nn_shr, nn_1shl, nn_31, il_p, il_n, it_p, it_n, ie_p, ie_n, ie_b, ie_b1, ie_m, ie_mm, it_m, it_m0, il_m0, bI_rZ, Option.bind_some, bd2_some, Nat.add_zero, Nat.zero_add, if_true, if_false, Bool.false_eq_true, eq_self, hI_R, hJ_R, ng_t, ng_e, an, l, now, if_neg hx'.1, me]
    · simp (disch := first | assumption | omega | decide | ((repeat first | apply lyI | apply lyJ | apply lywI | apply lywJ | apply csI | apply csJ | apply cswI | apply cswJ); assumption)) only [f_X11_freeCase_b2, S0, LI, ↓li_m1, nI_add, pk_mul, nn_sub, nn_m1, nn_div, nn_rem, nn_nz, nn_mod, nJ_l, lN_add, lN_mul, nn_tb1, nI_bt, nn_and, nn_or, nn_xor, nn_shr, nn_1shl, nn_31, il_p, il_n, it_p, it_n, ie_p, ie_n, ie_b, ie_b1, ie_m, ie_mm, it_m, it_m0, il_m0, bI_rZ, Option.bind_some, bd2_some, Nat.add_zero, Nat.zero_add, if_true, if_false, Bool.false_eq_true, eq_self, hI_R, hJ_R, ng_t, ng_e, an]
  obtain ⟨g, eg, ig, sg, al, lo⟩ := x_init iv
  have nw : nwO h 1 19 = some (h.1.length, hN h 1 19) := rfl
  have ln : 136 ≤ h.1.length := by
    rcases al with e | e
    · have := cs_len sg
      have e2 : (136 : Nat) ≤ h.1.length := by
        obtain ⟨⟨ext, e1⟩, -⟩ := hl
        rw [e1, List.length_append, SH0_len]
        omega
      exact e2
    · exact e.1
  have n0 : g.2.2.2 0 11 ≠ some h.1.length := by
    rw [(lo 0 (by decide)).2, now]
    intro e
    have := Option.some.inj e
    omega
  have nmk : ∀ i, i < K → g.2.2.2 (77 + 12 * i) 2 ≠ some h.1.length := fun i hi e => by
    rw [(lo (77 + 12 * i) (by omega)).2, (hci i hi).1] at e
    have := Option.some.inj e
    have := (hci i hi).2
    omega
  have g14 : g.2.1 0 14 = nI K := by rw [(lo 0 (by decide)).1]; exact k1
  have g46 : g.2.1 4 6 = h.2.1 4 6 := by rw [(lo 4 (by decide)).1]
  cases hf : firstB ok 5 with
  | none =>
    rw [hf] at lp
    have lp' : f_X11_freeCase_l2 h 0 (nI 0) = some (.inr (.inr ())) := lp
    refine ⟨h.1.length, g, K, ?_, ig, sg, al, n0, K3, g14, nmk, g46⟩
    simp (disch := first | assumption | omega | decide | ((repeat first | apply lyI | apply lyJ | apply lywI | apply lywJ | apply csI | apply csJ | apply cswI | apply cswJ); assumption)) only [f_X11_freeCase, LI, ↓li_m1, nI_add, pk_mul, nn_sub, nn_m1, nn_div, nn_rem, nn_nz, nn_mod, nJ_l, lN_add, lN_mul, nn_tb1, nI_bt, nn_and, nn_or, nn_xor, nn_shr, nn_1shl, nn_31, il_p, il_n, it_p, it_n, ie_p, ie_n, ie_b, ie_b1, ie_m, ie_mm, it_m, it_m0, il_m0, bI_rZ, Option.bind_some, bd2_some, Nat.add_zero, Nat.zero_add, if_true, if_false, Bool.false_eq_true, eq_self, hI_R, hJ_R, ng_t, ng_e, lp', nw, eg]
  | some j =>
    obtain ⟨j5, oj, -⟩ := firstB_s.mp hf
    rw [hf] at lp
    have lp1 : f_X11_freeCase_l2 h 0 (nI 0) = some (ex j) := lp
    cases hr : h.2.2.2 11 j with
    | none =>
      have ej : ex j = .inl (nI j) := by
        show (match h.2.2.2 11 j with | none => (Sum.inl (nI j) : Int32 ⊕ (Nat ⊕ Unit)) | some t => .inr (.inl t)) = _
        rw [hr]
      rw [ej] at lp1
      have lg := ig.1
      have kg : kd g h.1.length = 1 := by
        have := sg.2.1 0 (by decide)
        unfold kd
        rw [Nat.add_zero] at this
        rw [this]
        decide +kernel
      have sr : sR g 24 11 (nI j) 1 h.1.length = some (hR g 11 j (some h.1.length)) := by
        unfold sR
        rw [inb_L lg (t := 24) (a := 11) (j := j) rfl (by decide) j5 (by decide), kg, nI_clamp (by omega)]
        rfl
      refine ⟨h.1.length, hR g 11 j (some h.1.length), K, ?_, inv_R11 j5 sg al ig, cs_Rg (by decide) (by decide) (by decide) sg, al, by rw [rR_ne (by omega)]; exact n0, K3, g14, fun i hi => by rw [rR_ne (by omega)]; exact nmk i hi, g46⟩
      simp (disch := first | assumption | omega | decide | ((repeat first | apply lyI | apply lyJ | apply lywI | apply lywJ | apply csI | apply csJ | apply cswI | apply cswJ); assumption)) only [f_X11_freeCase, S0, LI, ↓li_m1, nI_add, pk_mul, nn_sub, nn_m1, nn_div, nn_rem, nn_nz, nn_mod, nJ_l, lN_add, lN_mul, nn_tb1, nI_bt, nn_and, nn_or, nn_xor, nn_shr, nn_1shl, nn_31, il_p, il_n, it_p, it_n, ie_p, ie_n, ie_b, ie_b1, ie_m, ie_mm, it_m, it_m0, il_m0, bI_rZ, Option.bind_some, bd2_some, Nat.add_zero, Nat.zero_add, if_true, if_false, Bool.false_eq_true, eq_self, hI_R, hJ_R, ng_t, ng_e, lp1, nw, eg, sr]
    | some t =>
      have ej : ex j = .inr (.inl t) := by
        show (match h.2.2.2 11 j with | none => (Sum.inl (nI j) : Int32 ⊕ (Nat ⊕ Unit)) | some t => .inr (.inl t)) = _
        rw [hr]
      have oj' : (!decide (t = b.c) && !mk t) = true := by
        rw [← oj]
        show _ = (match h.2.2.2 11 j with | none => true | some t => !decide (t = b.c) && !mk t)
        rw [hr]
      rw [Bool.and_eq_true] at oj'
      have nt : ¬ t = b.c := by simpa using oj'.1
      have mt : mk t = false := by simpa using oj'.2
      rw [ej] at lp1
      obtain ⟨y1, y2⟩ := i4.2 j j5 t hr
      refine ⟨t, h, K, by simp (disch := first | assumption | omega | decide | ((repeat first | apply lyI | apply lyJ | apply lywI | apply lywJ | apply csI | apply csJ | apply cswI | apply cswJ); assumption)) only [f_X11_freeCase, LI, ↓li_m1, nI_add, pk_mul, nn_sub, nn_m1, nn_div, nn_rem, nn_nz, nn_mod, nJ_l, lN_add, lN_mul, nn_tb1, nI_bt, nn_and, nn_or, nn_xor, nn_shr, nn_1shl, nn_31, il_p, il_n, it_p, it_n, ie_p, ie_n, ie_b, ie_b1, ie_m, ie_mm, it_m, it_m0, il_m0, bI_rZ, Option.bind_some, bd2_some, Nat.add_zero, Nat.zero_add, if_true, if_false, Bool.false_eq_true, eq_self, hI_R, hJ_R, ng_t, ng_e, lp1], iv, y1, y2, ?_, K3, k1, fun i hi e => ?_, rfl⟩
      · rw [now]
        exact fun e => nt (Option.some.inj e).symm
      · rw [(hci i hi).1] at e
        have e2 := Option.some.inj e
        have := anyB_f.mp mt i hi
        rw [decide_eq_true e2] at this
        cases this
