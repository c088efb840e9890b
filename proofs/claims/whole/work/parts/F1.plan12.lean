/-! ===== plan ===== -/
def uI (x : Int32) : Nat := x.toBitVec.toNat
theorem uI_b (x : Int32) : nI (uI x) = x := by
  apply Int32.toBitVec_inj.mp
  show BitVec.ofNat 32 x.toBitVec.toNat = x.toBitVec
  rw [BitVec.ofNat_toNat, BitVec.setWidth_eq]
theorem uI_n {v : Nat} (h : v < 2147483648) : uI (nI v) = v := by
  show (BitVec.ofNat 32 v).toNat = v
  rw [BitVec.toNat_ofNat]
  exact Nat.mod_eq_of_lt (by omega)
theorem sg_surj {K : Nat → Nat → Nat} : ∀ {N s : Nat}, s < sgK K N → ∃ r, r < N ∧ clB K r = false ∧ sgK K r = s
  | 0, s, h => absurd (show s < 0 from h) (by omega)
  | N + 1, s, h => by
    cases hc : clB K N with
    | true =>
      rw [sg_f hc] at h
      obtain ⟨r, h1, h2, h3⟩ := sg_surj h
      exact ⟨r, by omega, h2, h3⟩
    | false =>
      rw [sg_t hc] at h
      rcases Nat.lt_or_ge s (sgK K N) with u | u
      · obtain ⟨r, h1, h2, h3⟩ := sg_surj u
        exact ⟨r, by omega, h2, h3⟩
      · exact ⟨N, by omega, hc, by omega⟩
theorem plo_c {h h' : aH} {p o : Nat} {A : Nat → Nat} (e : ∀ j, j < 5 → h'.2.1 (p + j) = h.2.1 (p + j)) (e7 : h'.2.1 114 (o + 7) = h.2.1 114 (o + 7)) (er : ∀ x, 148 ≤ x → x < 400 → h'.2.1 114 (o + x) = h.2.1 114 (o + x)) (pl : PLo h p o A) : PLo h' p o A := by
  have e0 := e 0 (by decide)
  have e1 := e 1 (by decide)
  have e2 := e 2 (by decide)
  have e3 := e 3 (by decide)
  have e4 := e 4 (by decide)
  rw [Nat.add_zero] at e0
  rcases pl with ⟨h1, h2⟩ | ⟨K, N, W, F, G, B, ns, h1, ⟨c1, c2⟩, pw, ⟨r1, r2⟩, pk⟩
  · exact Or.inl ⟨by rw [e0]; exact h1, by rw [e7]; exact h2⟩
  · have n60 := pk.2.1
    refine Or.inr ⟨K, N, W, F, G, B, ns, by rw [e0]; exact h1, ⟨by rw [e0]; exact c1, fun s hs => ?_⟩, pw, ⟨by rw [e7]; exact r1, fun k i hk hi => ?_⟩, pk⟩
    · rw [e1, e2, e3, e4]
      exact c2 s hs
    · rw [er _ (by omega) (by omega)]
      exact r2 k i hk hi
/-- the rows that were read are a plan -/
theorem plo_mk {h : aH} {p o : Nat} {A C : Nat → Nat} {K : Nat → Nat → Nat} {N : Nat} {op : Nat → Nat} (pv : PVp C K N 0 op) (pc : PCp h p K N) (e7 : h.2.1 p 7 = nI 1) (pr : PRo h o K N) (c2 : C 2 = A 3) (c3 : C 3 = A 4) (b3 : A 3 ≤ 1000) (b4 : A 4 ≤ 1000) : PLo h p o A := by
  obtain ⟨v1, v2, v3, v4, v5⟩ := pv
  have pk : PK A K N (fun s => uI (h.2.1 (p + 1) s)) (fun s => uI (h.2.1 (p + 2) s)) (fun s => uI (h.2.1 (p + 3) s)) (fun s => uI (h.2.1 (p + 4) s)) (sgK K N) := by
    refine ⟨rfl, by omega, v1, fun r hr hc => ?_⟩
    obtain ⟨q1, q2, q3, q4, q5⟩ := pc.2 r hr hc
    rw [c2, c3] at v4
    rcases v4 r hr hc with ⟨k0, k1, k2⟩ | ⟨k0, k1⟩ | k0 | ⟨k0, k2⟩ | ⟨x, x4, k0, k1, k2, k3⟩
    · refine Or.inl ⟨k0, ?_, ?_, ?_, k1, k2⟩
      · show uI _ = _
        rw [q1, k0]
        rfl
      · show uI _ = _
        rw [q2 (by omega) (by omega), uI_n (by omega)]
      · show uI _ = _
        rw [q4 k0, uI_n (by omega)]
    · refine Or.inr (Or.inl ⟨k0, ?_, ?_, k1⟩)
      · show uI _ = _
        rw [q1, k0]
        rfl
      · show uI _ = _
        rw [q2 (by omega) (by omega), uI_n (by omega)]
    · refine Or.inr (Or.inr (Or.inl ⟨k0, ?_⟩))
      show uI _ = _
      rw [q1, k0]
      rfl
    · refine Or.inr (Or.inr (Or.inr (Or.inl ⟨k0, ?_, ?_, k2⟩)))
      · show uI _ = _
        rw [q1, k0]
        rfl
      · show uI _ = _
        rw [q3 k0, uI_n (by omega)]
    · rcases k3 with ⟨e, he, -⟩ | ⟨k4, k5, k6⟩
      · exact absurd he (by omega)
      · refine Or.inr (Or.inr (Or.inr (Or.inr ⟨x, x4, k0, ?_, ?_, k1, k2, k4, k5, k6, ?_⟩)))
        · show uI _ = _
          have wk : wkN (2122 + x) = 30 + x := by
            unfold wkN
            rw [if_neg (by omega)]
            omega
          rw [q1, k0, wk, uI_n (by omega)]
        · show uI _ = _
          rw [q2 (by omega) (by omega), uI_n (by omega)]
        · show uI _ = _
          have := sg_mono (K := K) (a := K r 3) (b := N) (by omega)
          rw [q5 (by omega) k4, uI_n (by omega)]
  refine Or.inr ⟨K, N, _, _, _, _, sgK K N, e7, ⟨pc.1, fun s hs => ⟨(uI_b _).symm, (uI_b _).symm, (uI_b _).symm, (uI_b _).symm⟩⟩, ⟨v1, fun s hs => ?_⟩, pr, pk⟩
  obtain ⟨r, hr, hc, rfl⟩ := sg_surj hs
  rcases pk.2.2.2 r hr hc with ⟨k0, k1, k2, k3, k4, k5⟩ | ⟨k0, k1, k2, k3⟩ | ⟨k0, k1⟩ | ⟨k0, k1, k2, k3⟩ | ⟨x, x4, k0, k1, k2, k3, k4, k5, k6, k7, k8⟩
  · exact Or.inl ⟨k1, k2 ▸ k4, k3 ▸ k5⟩
  · exact Or.inr (Or.inl ⟨k1, k2 ▸ k3⟩)
  · exact Or.inr (Or.inr (Or.inl k1))
  · exact Or.inr (Or.inr (Or.inr (Or.inl ⟨k1, k2 ▸ k3⟩)))
  · have := sg_mono (K := K) (a := K r 3) (b := N) (by omega)
    refine Or.inr (Or.inr (Or.inr (Or.inr ⟨x, x4, k1, fun h => k2 ▸ k3 h, k2 ▸ k4, ?_⟩)))
    rw [k8]
    omega
/-- faults alike -/
def FA (h : aH) : Prop := h.2.1 4 12 = h.2.1 113 17 ∧ h.2.1 4 13 = h.2.1 113 18
def PCI : List Nat := [4, 7, 8, 9, 14, 15, 16, 17, 18, 19, 20, 21, 22, 23, 24, 25, 114, 121, 125]
def PF1 : List Nat := [3, 11, 12, 13, 14, 15, 16, 17, 18, 19, 20, 21, 29, 30]
/-- a plan was read by both -/
def PI (h : aH) (A : Nat → Nat) (f g : aH → Option (Int32 × aH)) : Prop := ∃ r h1 h2 p', f h = some (r, h1) ∧ g h1 = some (r, h2) ∧ (p' = 14 ∨ p' = 20) ∧ FR (hR (hR h 0 12 (some p')) 0 13 (some (34 - p'))) h2 PCI [4, 10] [17] PF1 ∧ (∀ x, x < 1607 → x ≠ 7 → (x < 148 ∨ 400 ≤ x) → h2.2.1 114 x = h.2.1 114 x) ∧ PLo h2 p' 0 A ∧ ST h2 ∧ TP h2 ∧ FA h2
theorem pi_no {h : aH} {A : Nat → Nat} {p : Nat} (hp : p = 14 ∨ p = 20) (h12 : h.2.2.2 0 12 = some p) (h13 : h.2.2.2 0 13 = some (34 - p)) (pl : PLo h p 0 A) (tp : TP h) (fa : FA h) {f g : aH → Option (Int32 × aH)} {w : Int32} (e1 : f h = some (m1, hI h 0 17 w)) (e2 : g (hI h 0 17 w) = some (m1, hI (hI h 0 17 w) 113 3 w)) : PI h A f g := by
  have ff : FR h (hI (hI h 0 17 w) 113 3 w) [] [] [17] [3] := (fr_0 (by decide)).tr (fr_1 (by decide))
  refine ⟨m1, _, _, p, e1, e2, hp, ?_, fun x _ _ _ => rfl, plo_c (fun j hj => ff.I _ (by simp) (by omega) (by omega)) rfl (fun _ _ _ => rfl) pl, both_st w, ?_, ?_⟩
  · have r1 : hR h 0 12 (some p) = h := by rw [← h12]; exact hR_self
    rw [r1, ← h13, hR_self]
    exact (fr_0 (by decide)).tr (fr_1 (by decide))
  · obtain ⟨n, n1, n2, n3, n4⟩ := tp
    exact ⟨n, n1, n2, by rw [rI_nk (by decide)]; exact n3, n4⟩
  · refine ⟨?_, ?_⟩
    · rw [rI_nk (by decide)]
      exact fa.1
    · rw [rI_nk (by decide)]
      exact fa.2
/-- a plan's text within the tape -/
theorem o_plan_14 {h : aH} (hl : LAY h) {c : Nat} (hs : CS h c) (hn : h.2.2.2 0 11 = some c) {A : Nat → Nat} {C : Nat → Nat} {V : Nat → List Nat} (nc : NCl h c C V) (nr : NRe h 0 C V) (nv : NV C V) (c2 : C 2 = A 3) (c3 : C 3 = A 4) (b3 : A 3 ≤ 1000) (b4 : A 4 ≤ 1000) (q3 : h.2.1 114 3 = nI (A 3)) (q4 : h.2.1 114 4 = nI (A 4)) (wd : WDS h) {p : Nat} (hp : p = 34 - 14) (h12 : h.2.2.2 0 12 = some p) (h13 : h.2.2.2 0 13 = some 14) (pl : PLo h p 0 A) {t : Nat} (t9 : t ≤ 900) (e6 : h.2.1 4 6 = nI t) (e11 : h.2.1 113 11 = nI t) (e5 : ∀ j, h.2.1 5 j = h.2.1 120 j) (eb : ∀ j, (h.2.1 5 j).toInt8.toInt32 = h.2.1 5 j) {n : Nat} (nt : n ≤ t) (n3 : n ≤ 300) : PI h A (fun h => f_X11_plan h 0 (nI n)) (fun h => f_X12_plan h 113 (nI n)) := by
  obtain ⟨T, hT⟩ : ∃ T : Nat → Nat, ∀ j, T j < 256 ∧ h.2.1 5 j = bS (T j) := ⟨fun j => (bS_ex _ (eb j)).choose, fun j => (bS_ex _ (eb j)).choose_spec⟩
  obtain ⟨h7, m, r7, f7, lc⟩ := x_open hl (T := T) ⟨fun j => (hT j).1, fun j => (hT j).2⟩ wd (n := n) (by omega)
  have l7 := lc.1
  have s7 := cs_fr f7 hs
  have c0 := hs.1
  have nc7 : NCl h7 c C V := nc_fr f7 hs (by simp; omega) (by simp; omega) (by simp; omega) (by simp; omega) nc
  have k12 : h7.2.2.2 0 12 = some p := by rw [f7.2.1]; exact h12
  have k13 : h7.2.2.2 0 13 = some 14 := by rw [f7.2.1]; exact h13
  have k11 : h7.2.2.2 0 11 = some c := by rw [f7.2.1]; exact hn
  obtain ⟨o, fc, of, oo, hr⟩ := x_text14 nv lc s7 nc7
  have fx : FR h h7 [4, 7, 8, 9, 14, 15, 16, 17, 18, 19] [4, 10] [17] [] := f7.mono (by decide) (by decide) (by decide) (by decide)
  have hd : f_X11_plan h 0 (nI n) = bd2 (f_X8_readSteps h7 14 4 (c + 1)) fun t12 h13 => if t12 = nI 0 then (ck h13 11 0).bind fun _ => bd2 (f_X11_refuse h13 0 (9 : Int32)) fun t22 h23 => some (t22, h23) else (gR h13 11 0 12).bind fun t14 => (gR h13 11 0 13).bind fun t15 => (pR h13 11 0 12 t15).bind fun h16 => (pR h16 11 0 13 t14).bind fun h17 => (gR h17 11 0 12).bind fun t18 => (gI h17 8 t18 6).bind fun t19 => (ck h17 11 0).bind fun _ => bd2 (f_X11_give h17 0 t19) fun t20 h21 => some (t20, h21) := by
    simp (disch := first | assumption | omega | decide | ((repeat first | apply lyI | apply lyJ | apply lywI | apply lywJ | apply csI | apply csJ | apply cswI | apply cswJ); assumption)) only [f_X11_plan, f_X11_below, S0, SX, SP14, SC, LI, ↓li_m1, nI_add, pk_mul, nn_sub, nn_m1, nn_div, nn_rem, nn_nz, nn_mod, nJ_l, lN_add, lN_mul, nn_tb1, nI_bt, nn_and, nn_or, nn_xor, nn_shr, nn_1shl, nn_31, il_p, il_n, it_p, it_n, ie_p, ie_n, ie_b, ie_b1, ie_m, ie_mm, it_m, it_m0, il_m0, bI_rZ, Option.bind_some, bd2_some, Nat.add_zero, Nat.zero_add, if_true, if_false, Bool.false_eq_true, eq_self, hI_R, hJ_R, ng_t, ng_e, e6, r7, k13, k11]
  /- the reference behind the class -/
  have ref : ∀ k : aH, LAY k → (∀ j, k.2.1 120 j = h.2.1 120 j) → k.2.1 113 11 = h.2.1 113 11 → k.2.2.1 116 = h.2.2.1 116 → k.2.1 114 = h.2.1 114 → ∃ k', f_X12_plan k 113 (nI n) = some (FRr (pFin T n o), k') ∧ FRp k k' (pFin T n o) := fun k kl t1 t2 t3 t4 => by
    obtain ⟨k1, rb, fb, rc⟩ := r_begins kl (T := T) (fun j => (hT j).1) (fun j => by rw [t1, ← e5]; exact (hT j).2) (n := n) (t := t) (mo := 300) (t2.trans e11) nt t9 n3 (by decide)
    exact r_plan kl rb fb rc (by unfold NRe; rw [t3]; exact nr) (by rw [t4, c2]; exact q3) (by rw [t4, c3]; exact q4) of oo hr
  cases ho : pFin T n o with
  | inl fq =>
    obtain ⟨f, q⟩ := fq
    rw [ho] at fc ref
    obtain ⟨f0, f9, h13', rx, fx2, fl⟩ := fc
    have l13 := fl.1
    have fx3 : FR h (hI h13' 0 17 (nI 9)) [4, 7, 8, 9, 14, 15, 16, 17, 18, 19] [4, 10] [17] [] := (fx.tr (fx2.mono (by decide) (by decide) (by decide) (by decide))).tr (fr_0 (by decide))
    obtain ⟨k', rk, ⟨fk, k11', a1, a2, a3, a4⟩⟩ := ref (hI h13' 0 17 (nI 9)) l13 (fun j => by rw [fx3.I 120 (by decide) (by decide) (by decide)]) (fx3.2.2.2.2.2 11 (by decide)) (fx3.J 116 (by decide)) (fx3.I 114 (by decide) (by decide) (by decide))
    have fz : FR h k' PCI [4, 10] [17] PF1 := (fx3.mono (by decide) (by decide) (by decide) (by decide)).tr (fk.mono (by decide) (by decide) (by decide) (by decide))
    have z114 : ∀ x, x < 1607 → k'.2.1 114 x = h.2.1 114 x := fun x hx => by rw [a1 x hx, fx3.I 114 (by decide) (by decide) (by decide)]
    have z4 : k'.2.1 4 = h13'.2.1 4 := fk.I 4 (by decide) (by decide) (by decide)
    refine ⟨m1, hI h13' 0 17 (nI 9), k', p, ?_, rk, by omega, ?_, fun x hx _ _ => z114 x hx, ?_, ?_, ⟨0, by decide, ?_, k11', fun j => ?_, fun j => ?_⟩, ?_, ?_⟩
    · show f_X11_plan h 0 (nI n) = _
      rw [hd, rx, bd2_some, if_pos rfl]
      simp (disch := first | assumption | omega | decide | ((repeat first | apply lyI | apply lyJ | apply lywI | apply lywJ | apply csI | apply csJ | apply cswI | apply cswJ); assumption)) only [f_X11_refuse, S0, LI, ↓li_m1, nI_add, pk_mul, nn_sub, nn_m1, nn_div, nn_rem, nn_nz, nn_mod, nJ_l, lN_add, lN_mul, nn_tb1, nI_bt, nn_and, nn_or, nn_xor, nn_shr, nn_1shl, nn_31, il_p, il_n, it_p, it_n, ie_p, ie_n, ie_b, ie_b1, ie_m, ie_mm, it_m, it_m0, il_m0, bI_rZ, Option.bind_some, bd2_some, Nat.add_zero, Nat.zero_add, if_true, if_false, Bool.false_eq_true, eq_self, hI_R, hJ_R, ng_t, ng_e]
    · have r1 : hR h 0 12 (some p) = h := by rw [← h12]; exact hR_self
      rw [r1, show (34 - p) = 14 by omega, ← h13, hR_self]
      exact fz
    · refine plo_c (fun j hj => ?_) ?_ (fun x h1 h2 => ?_) pl
      · subst hp
        rw [fk.I _ (by simp; omega) (by omega) (by omega), fx3.I _ (by simp; omega) (by omega) (by omega)]
      · exact z114 _ (by decide)
      · exact z114 _ (by omega)
    · show k'.2.1 0 17 = k'.2.1 113 3
      rw [a2, fk.2.2.2.2.1 17 (by decide), rI_eq]
    · rw [z4]
      exact fl.2.2.2
    · rw [fz.I 5 (by decide) (by decide) (by decide), fz.I 120 (by decide) (by decide) (by decide)]
      exact e5 j
    · rw [fz.I 5 (by decide) (by decide) (by decide)]
      exact eb j
    · rw [a3, z4]
      exact fl.2.1
    · rw [a4, z4]
      exact fl.2.2.1
  | inr s =>
    obtain ⟨K, N⟩ := s
    rw [ho] at fc ref
    obtain ⟨⟨op, pv⟩, g, rx, fx2, lg, pc, g7, g12, g13, g6⟩ := fc
    have hp14 : p = 14 ∨ p = 20 := by omega
    have w12 : g.2.2.2 0 12 = some p := by rw [fx2.2.1]; exact k12
    have w13 : g.2.2.2 0 13 = some 14 := by rw [fx2.2.1]; exact k13
    have kd0 : kd g 0 = 11 := lay_kd lg 0 (by decide)
    let g1 := hR (hR g 0 12 (some 14)) 0 13 (some p)
    have lg1 : LAY g1 := lay_Rg (by decide +kernel) (lay_Rg (by decide +kernel) lg)
    have lg2 : LAY (hI g1 0 17 (nI 0)) := lg1
    have cl : f_X11_plan h 0 (nI n) = some (nI (sgK K N), hI g1 0 17 (nI 0)) := by
      have y1 : pR g 11 0 12 14 = some (hR g 0 12 (some 14)) := if_pos kd0
      have y2 : pR (hR g 0 12 (some 14)) 11 0 13 p = some g1 := if_pos kd0
      have y3 : g1.2.2.2 0 12 = some 14 := by
        show (hR (hR g 0 12 (some 14)) 0 13 (some p)).2.2.2 0 12 = _
        rw [rR_hR, if_neg (by decide), rR_hR, if_pos ⟨rfl, rfl⟩]
      have y4 : g1.2.1 14 6 = nI (sgK K N) := pc.1
      rw [hd, rx, bd2_some, if_neg (by decide)]
      simp (disch := first | assumption | omega | decide | ((repeat first | apply lyI | apply lyJ | apply lywI | apply lywJ | apply csI | apply csJ | apply cswI | apply cswJ); assumption)) only [f_X11_give, S0, SP14, LI, ↓li_m1, nI_add, pk_mul, nn_sub, nn_m1, nn_div, nn_rem, nn_nz, nn_mod, nJ_l, lN_add, lN_mul, nn_tb1, nI_bt, nn_and, nn_or, nn_xor, nn_shr, nn_1shl, nn_31, il_p, il_n, it_p, it_n, ie_p, ie_n, ie_b, ie_b1, ie_m, ie_mm, it_m, it_m0, il_m0, bI_rZ, Option.bind_some, bd2_some, Nat.add_zero, Nat.zero_add, if_true, if_false, Bool.false_eq_true, eq_self, hI_R, hJ_R, ng_t, ng_e, w12, w13, y1, y2, y3, y4]
    have fx3 : FR h g [4, 7, 8, 9, 14, 15, 16, 17, 18, 19] [4, 10] [17] [] := fx.tr (fx2.mono (by decide) (by decide) (by decide) (by decide))
    have fx4 : FR (hR (hR h 0 12 (some 14)) 0 13 (some p)) (hI g1 0 17 (nI 0)) [4, 7, 8, 9, 14, 15, 16, 17, 18, 19] [4, 10] [17] [] := (fr_R (fr_R fx3)).tr (fr_0 (by decide))
    obtain ⟨k', rk, ⟨fk, k11', a1, a2, a3, a4, a5, a6⟩⟩ := ref (hI g1 0 17 (nI 0)) lg2 (fun j => by rw [fx4.I 120 (by decide) (by decide) (by decide)]; rfl) (fx4.2.2.2.2.2 11 (by decide)) (fx4.J 116 (by decide)) (fx4.I 114 (by decide) (by decide) (by decide))
    have fz : FR (hR (hR h 0 12 (some 14)) 0 13 (some p)) k' PCI [4, 10] [17] PF1 := (fx4.mono (by decide) (by decide) (by decide) (by decide)).tr (fk.mono (by decide) (by decide) (by decide) (by decide))
    have z4 : k'.2.1 4 = g.2.1 4 := fk.I 4 (by decide) (by decide) (by decide)
    have zp : ∀ y, y < 5 → k'.2.1 (14 + y) = g.2.1 (14 + y) := fun y hy => (fk.I (14 + y) (by simp; omega) (by omega) (by omega)).trans ((fr_0 (h := g1) (k := 17) (x := nI 0) (cI := []) (cJ := []) (f0 := [17]) (f1 := []) (by decide)).I (14 + y) (by simp) (by omega) (by omega))
    have zp0 : k'.2.1 14 = g.2.1 14 := zp 0 (by decide)
    refine ⟨nI (sgK K N), hI g1 0 17 (nI 0), k', 14, cl, rk, by omega, ?_, fun x h1 h2 h3 => ?_, ?_, ?_, ⟨0, by decide, ?_, k11', fun j => ?_, fun j => ?_⟩, ?_, ?_⟩
    · rw [show 34 - 14 = p by omega]
      exact fz
    · rw [a1 x h1 h2 h3, fx4.I 114 (by decide) (by decide) (by decide)]
      rfl
    · refine plo_mk pv ?_ ?_ ⟨?_, fun r j hr hj => ?_⟩ c2 c3 b3 b4
      · unfold PCp
        rw [zp0, zp 1 (by decide), zp 2 (by decide), zp 3 (by decide), zp 4 (by decide)]
        exact pc
      · rw [zp0]
        exact g7
      · rw [Nat.zero_add]
        exact a2
      · rw [Nat.zero_add]
        exact a3 r j hr hj
    · show k'.2.1 0 17 = k'.2.1 113 3
      rw [a4, fk.2.2.2.2.1 17 (by decide), rI_eq]
    · rw [z4]
      exact g6
    · rw [fz.I 5 (by decide) (by decide) (by decide), fz.I 120 (by decide) (by decide) (by decide)]
      exact e5 j
    · rw [fz.I 5 (by decide) (by decide) (by decide)]
      exact eb j
    · rw [a5, z4]
      exact g12
    · rw [a6, z4]
      exact g13
theorem o_plan_20 {h : aH} (hl : LAY h) {c : Nat} (hs : CS h c) (hn : h.2.2.2 0 11 = some c) {A : Nat → Nat} {C : Nat → Nat} {V : Nat → List Nat} (nc : NCl h c C V) (nr : NRe h 0 C V) (nv : NV C V) (c2 : C 2 = A 3) (c3 : C 3 = A 4) (b3 : A 3 ≤ 1000) (b4 : A 4 ≤ 1000) (q3 : h.2.1 114 3 = nI (A 3)) (q4 : h.2.1 114 4 = nI (A 4)) (wd : WDS h) {p : Nat} (hp : p = 34 - 20) (h12 : h.2.2.2 0 12 = some p) (h13 : h.2.2.2 0 13 = some 20) (pl : PLo h p 0 A) {t : Nat} (t9 : t ≤ 900) (e6 : h.2.1 4 6 = nI t) (e11 : h.2.1 113 11 = nI t) (e5 : ∀ j, h.2.1 5 j = h.2.1 120 j) (eb : ∀ j, (h.2.1 5 j).toInt8.toInt32 = h.2.1 5 j) {n : Nat} (nt : n ≤ t) (n3 : n ≤ 300) : PI h A (fun h => f_X11_plan h 0 (nI n)) (fun h => f_X12_plan h 113 (nI n)) := by
  obtain ⟨T, hT⟩ : ∃ T : Nat → Nat, ∀ j, T j < 256 ∧ h.2.1 5 j = bS (T j) := ⟨fun j => (bS_ex _ (eb j)).choose, fun j => (bS_ex _ (eb j)).choose_spec⟩
  obtain ⟨h7, m, r7, f7, lc⟩ := x_open hl (T := T) ⟨fun j => (hT j).1, fun j => (hT j).2⟩ wd (n := n) (by omega)
  have l7 := lc.1
  have s7 := cs_fr f7 hs
  have c0 := hs.1
  have nc7 : NCl h7 c C V := nc_fr f7 hs (by simp; omega) (by simp; omega) (by simp; omega) (by simp; omega) nc
  have k12 : h7.2.2.2 0 12 = some p := by rw [f7.2.1]; exact h12
  have k13 : h7.2.2.2 0 13 = some 20 := by rw [f7.2.1]; exact h13
  have k11 : h7.2.2.2 0 11 = some c := by rw [f7.2.1]; exact hn
  obtain ⟨o, fc, of, oo, hr⟩ := x_text20 nv lc s7 nc7
  have fx : FR h h7 [4, 7, 8, 9, 20, 21, 22, 23, 24, 25] [4, 10] [17] [] := f7.mono (by decide) (by decide) (by decide) (by decide)
  have hd : f_X11_plan h 0 (nI n) = bd2 (f_X8_readSteps h7 20 4 (c + 1)) fun t12 h13 => if t12 = nI 0 then (ck h13 11 0).bind fun _ => bd2 (f_X11_refuse h13 0 (9 : Int32)) fun t22 h23 => some (t22, h23) else (gR h13 11 0 12).bind fun t14 => (gR h13 11 0 13).bind fun t15 => (pR h13 11 0 12 t15).bind fun h16 => (pR h16 11 0 13 t14).bind fun h17 => (gR h17 11 0 12).bind fun t18 => (gI h17 8 t18 6).bind fun t19 => (ck h17 11 0).bind fun _ => bd2 (f_X11_give h17 0 t19) fun t20 h21 => some (t20, h21) := by
    simp (disch := first | assumption | omega | decide | ((repeat first | apply lyI | apply lyJ | apply lywI | apply lywJ | apply csI | apply csJ | apply cswI | apply cswJ); assumption)) only [f_X11_plan, f_X11_below, S0, SX, SP20, SC, LI, ↓li_m1, nI_add, pk_mul, nn_sub, nn_m1, nn_div, nn_rem, nn_nz, nn_mod, nJ_l, lN_add, lN_mul, nn_tb1, nI_bt, nn_and, nn_or, nn_xor, nn_shr, nn_1shl, nn_31, il_p, il_n, it_p, it_n, ie_p, ie_n, ie_b, ie_b1, ie_m, ie_mm, it_m, it_m0, il_m0, bI_rZ, Option.bind_some, bd2_some, Nat.add_zero, Nat.zero_add, if_true, if_false, Bool.false_eq_true, eq_self, hI_R, hJ_R, ng_t, ng_e, e6, r7, k13, k11]
  /- the reference behind the class -/
  have ref : ∀ k : aH, LAY k → (∀ j, k.2.1 120 j = h.2.1 120 j) → k.2.1 113 11 = h.2.1 113 11 → k.2.2.1 116 = h.2.2.1 116 → k.2.1 114 = h.2.1 114 → ∃ k', f_X12_plan k 113 (nI n) = some (FRr (pFin T n o), k') ∧ FRp k k' (pFin T n o) := fun k kl t1 t2 t3 t4 => by
    obtain ⟨k1, rb, fb, rc⟩ := r_begins kl (T := T) (fun j => (hT j).1) (fun j => by rw [t1, ← e5]; exact (hT j).2) (n := n) (t := t) (mo := 300) (t2.trans e11) nt t9 n3 (by decide)
    exact r_plan kl rb fb rc (by unfold NRe; rw [t3]; exact nr) (by rw [t4, c2]; exact q3) (by rw [t4, c3]; exact q4) of oo hr
  cases ho : pFin T n o with
  | inl fq =>
    obtain ⟨f, q⟩ := fq
    rw [ho] at fc ref
    obtain ⟨f0, f9, h13', rx, fx2, fl⟩ := fc
    have l13 := fl.1
    have fx3 : FR h (hI h13' 0 17 (nI 9)) [4, 7, 8, 9, 20, 21, 22, 23, 24, 25] [4, 10] [17] [] := (fx.tr (fx2.mono (by decide) (by decide) (by decide) (by decide))).tr (fr_0 (by decide))
    obtain ⟨k', rk, ⟨fk, k11', a1, a2, a3, a4⟩⟩ := ref (hI h13' 0 17 (nI 9)) l13 (fun j => by rw [fx3.I 120 (by decide) (by decide) (by decide)]) (fx3.2.2.2.2.2 11 (by decide)) (fx3.J 116 (by decide)) (fx3.I 114 (by decide) (by decide) (by decide))
    have fz : FR h k' PCI [4, 10] [17] PF1 := (fx3.mono (by decide) (by decide) (by decide) (by decide)).tr (fk.mono (by decide) (by decide) (by decide) (by decide))
    have z114 : ∀ x, x < 1607 → k'.2.1 114 x = h.2.1 114 x := fun x hx => by rw [a1 x hx, fx3.I 114 (by decide) (by decide) (by decide)]
    have z4 : k'.2.1 4 = h13'.2.1 4 := fk.I 4 (by decide) (by decide) (by decide)
    refine ⟨m1, hI h13' 0 17 (nI 9), k', p, ?_, rk, by omega, ?_, fun x hx _ _ => z114 x hx, ?_, ?_, ⟨0, by decide, ?_, k11', fun j => ?_, fun j => ?_⟩, ?_, ?_⟩
    · show f_X11_plan h 0 (nI n) = _
      rw [hd, rx, bd2_some, if_pos rfl]
      simp (disch := first | assumption | omega | decide | ((repeat first | apply lyI | apply lyJ | apply lywI | apply lywJ | apply csI | apply csJ | apply cswI | apply cswJ); assumption)) only [f_X11_refuse, S0, LI, ↓li_m1, nI_add, pk_mul, nn_sub, nn_m1, nn_div, nn_rem, nn_nz, nn_mod, nJ_l, lN_add, lN_mul, nn_tb1, nI_bt, nn_and, nn_or, nn_xor, nn_shr, nn_1shl, nn_31, il_p, il_n, it_p, it_n, ie_p, ie_n, ie_b, ie_b1, ie_m, ie_mm, it_m, it_m0, il_m0, bI_rZ, Option.bind_some, bd2_some, Nat.add_zero, Nat.zero_add, if_true, if_false, Bool.false_eq_true, eq_self, hI_R, hJ_R, ng_t, ng_e]
    · have r1 : hR h 0 12 (some p) = h := by rw [← h12]; exact hR_self
      rw [r1, show (34 - p) = 20 by omega, ← h13, hR_self]
      exact fz
    · refine plo_c (fun j hj => ?_) ?_ (fun x h1 h2 => ?_) pl
      · subst hp
        rw [fk.I _ (by simp; omega) (by omega) (by omega), fx3.I _ (by simp; omega) (by omega) (by omega)]
      · exact z114 _ (by decide)
      · exact z114 _ (by omega)
    · show k'.2.1 0 17 = k'.2.1 113 3
      rw [a2, fk.2.2.2.2.1 17 (by decide), rI_eq]
    · rw [z4]
      exact fl.2.2.2
    · rw [fz.I 5 (by decide) (by decide) (by decide), fz.I 120 (by decide) (by decide) (by decide)]
      exact e5 j
    · rw [fz.I 5 (by decide) (by decide) (by decide)]
      exact eb j
    · rw [a3, z4]
      exact fl.2.1
    · rw [a4, z4]
      exact fl.2.2.1
  | inr s =>
    obtain ⟨K, N⟩ := s
    rw [ho] at fc ref
    obtain ⟨⟨op, pv⟩, g, rx, fx2, lg, pc, g7, g12, g13, g6⟩ := fc
    have hp14 : p = 14 ∨ p = 20 := by omega
    have w12 : g.2.2.2 0 12 = some p := by rw [fx2.2.1]; exact k12
    have w13 : g.2.2.2 0 13 = some 20 := by rw [fx2.2.1]; exact k13
    have kd0 : kd g 0 = 11 := lay_kd lg 0 (by decide)
    let g1 := hR (hR g 0 12 (some 20)) 0 13 (some p)
    have lg1 : LAY g1 := lay_Rg (by decide +kernel) (lay_Rg (by decide +kernel) lg)
    have lg2 : LAY (hI g1 0 17 (nI 0)) := lg1
    have cl : f_X11_plan h 0 (nI n) = some (nI (sgK K N), hI g1 0 17 (nI 0)) := by
      have y1 : pR g 11 0 12 20 = some (hR g 0 12 (some 20)) := if_pos kd0
      have y2 : pR (hR g 0 12 (some 20)) 11 0 13 p = some g1 := if_pos kd0
      have y3 : g1.2.2.2 0 12 = some 20 := by
        show (hR (hR g 0 12 (some 20)) 0 13 (some p)).2.2.2 0 12 = _
        rw [rR_hR, if_neg (by decide), rR_hR, if_pos ⟨rfl, rfl⟩]
      have y4 : g1.2.1 20 6 = nI (sgK K N) := pc.1
      rw [hd, rx, bd2_some, if_neg (by decide)]
      simp (disch := first | assumption | omega | decide | ((repeat first | apply lyI | apply lyJ | apply lywI | apply lywJ | apply csI | apply csJ | apply cswI | apply cswJ); assumption)) only [f_X11_give, S0, SP20, LI, ↓li_m1, nI_add, pk_mul, nn_sub, nn_m1, nn_div, nn_rem, nn_nz, nn_mod, nJ_l, lN_add, lN_mul, nn_tb1, nI_bt, nn_and, nn_or, nn_xor, nn_shr, nn_1shl, nn_31, il_p, il_n, it_p, it_n, ie_p, ie_n, ie_b, ie_b1, ie_m, ie_mm, it_m, it_m0, il_m0, bI_rZ, Option.bind_some, bd2_some, Nat.add_zero, Nat.zero_add, if_true, if_false, Bool.false_eq_true, eq_self, hI_R, hJ_R, ng_t, ng_e, w12, w13, y1, y2, y3, y4]
    have fx3 : FR h g [4, 7, 8, 9, 20, 21, 22, 23, 24, 25] [4, 10] [17] [] := fx.tr (fx2.mono (by decide) (by decide) (by decide) (by decide))
    have fx4 : FR (hR (hR h 0 12 (some 20)) 0 13 (some p)) (hI g1 0 17 (nI 0)) [4, 7, 8, 9, 20, 21, 22, 23, 24, 25] [4, 10] [17] [] := (fr_R (fr_R fx3)).tr (fr_0 (by decide))
    obtain ⟨k', rk, ⟨fk, k11', a1, a2, a3, a4, a5, a6⟩⟩ := ref (hI g1 0 17 (nI 0)) lg2 (fun j => by rw [fx4.I 120 (by decide) (by decide) (by decide)]; rfl) (fx4.2.2.2.2.2 11 (by decide)) (fx4.J 116 (by decide)) (fx4.I 114 (by decide) (by decide) (by decide))
    have fz : FR (hR (hR h 0 12 (some 20)) 0 13 (some p)) k' PCI [4, 10] [17] PF1 := (fx4.mono (by decide) (by decide) (by decide) (by decide)).tr (fk.mono (by decide) (by decide) (by decide) (by decide))
    have z4 : k'.2.1 4 = g.2.1 4 := fk.I 4 (by decide) (by decide) (by decide)
    have zp : ∀ y, y < 5 → k'.2.1 (20 + y) = g.2.1 (20 + y) := fun y hy => (fk.I (20 + y) (by simp; omega) (by omega) (by omega)).trans ((fr_0 (h := g1) (k := 17) (x := nI 0) (cI := []) (cJ := []) (f0 := [17]) (f1 := []) (by decide)).I (20 + y) (by simp) (by omega) (by omega))
    have zp0 : k'.2.1 20 = g.2.1 20 := zp 0 (by decide)
    refine ⟨nI (sgK K N), hI g1 0 17 (nI 0), k', 20, cl, rk, by omega, ?_, fun x h1 h2 h3 => ?_, ?_, ?_, ⟨0, by decide, ?_, k11', fun j => ?_, fun j => ?_⟩, ?_, ?_⟩
    · rw [show 34 - 20 = p by omega]
      exact fz
    · rw [a1 x h1 h2 h3, fx4.I 114 (by decide) (by decide) (by decide)]
      rfl
    · refine plo_mk pv ?_ ?_ ⟨?_, fun r j hr hj => ?_⟩ c2 c3 b3 b4
      · unfold PCp
        rw [zp0, zp 1 (by decide), zp 2 (by decide), zp 3 (by decide), zp 4 (by decide)]
        exact pc
      · rw [zp0]
        exact g7
      · rw [Nat.zero_add]
        exact a2
      · rw [Nat.zero_add]
        exact a3 r j hr hj
    · show k'.2.1 0 17 = k'.2.1 113 3
      rw [a4, fk.2.2.2.2.1 17 (by decide), rI_eq]
    · rw [z4]
      exact g6
    · rw [fz.I 5 (by decide) (by decide) (by decide), fz.I 120 (by decide) (by decide) (by decide)]
      exact e5 j
    · rw [fz.I 5 (by decide) (by decide) (by decide)]
      exact eb j
    · rw [a5, z4]
      exact g12
    · rw [a6, z4]
      exact g13
theorem o_plan {h : aH} (hl : LAY h) {c : Nat} (hs : CS h c) (hn : h.2.2.2 0 11 = some c) {A : Nat → Nat} {C : Nat → Nat} {V : Nat → List Nat} (nc : NCl h c C V) (nr : NRe h 0 C V) (nv : NV C V) (c2 : C 2 = A 3) (c3 : C 3 = A 4) (b3 : A 3 ≤ 1000) (b4 : A 4 ≤ 1000) (q3 : h.2.1 114 3 = nI (A 3)) (q4 : h.2.1 114 4 = nI (A 4)) (wd : WDS h) {p : Nat} (hp : p = 14 ∨ p = 20) (h12 : h.2.2.2 0 12 = some p) (h13 : h.2.2.2 0 13 = some (34 - p)) (pl : PLo h p 0 A) (tp : TP h) (fa : FA h) (x : Int32) : PI h A (fun h => f_X11_plan h 0 x) (fun h => f_X12_plan h 113 x) := by
  obtain ⟨t, t9, e6, e11, e5, eb⟩ := id tp
  have l0 : LAY (hI h 0 17 (nI 1)) := hl
  rcases neg_or x with hx | ⟨v, v1, rfl⟩
  · refine pi_no hp h12 h13 pl tp fa (w := nI 1) ?_ ?_
    · show f_X11_plan h 0 x = _
      simp (disch := first | assumption | omega | decide | ((repeat first | apply lyI | apply lyJ | apply lywI | apply lywJ | apply csI | apply csJ | apply cswI | apply cswJ); assumption)) only [f_X11_plan, f_X11_plan_j23, f_X11_below, f_X11_refuse, S0, SX, LI, ↓li_m1, nI_add, pk_mul, nn_sub, nn_m1, nn_div, nn_rem, nn_nz, nn_mod, nJ_l, lN_add, lN_mul, nn_tb1, nI_bt, nn_and, nn_or, nn_xor, nn_shr, nn_1shl, nn_31, il_p, il_n, it_p, it_n, ie_p, ie_n, ie_b, ie_b1, ie_m, ie_mm, it_m, it_m0, il_m0, bI_rZ, Option.bind_some, bd2_some, Nat.add_zero, Nat.zero_add, if_true, if_false, Bool.false_eq_true, eq_self, hI_R, hJ_R, ng_t, ng_e, e6]
    · show f_X12_plan (hI h 0 17 (nI 1)) 113 x = _
      simp (disch := first | assumption | omega | decide | ((repeat first | apply lyI | apply lyJ | apply lywI | apply lywJ | apply csI | apply csJ | apply cswI | apply cswJ); assumption)) only [f_X12_plan, f_X12_begins, f_X12_refuse, SM, LI, ↓li_m1, nI_add, pk_mul, nn_sub, nn_m1, nn_div, nn_rem, nn_nz, nn_mod, nJ_l, lN_add, lN_mul, nn_tb1, nI_bt, nn_and, nn_or, nn_xor, nn_shr, nn_1shl, nn_31, il_p, il_n, it_p, it_n, ie_p, ie_n, ie_b, ie_b1, ie_m, ie_mm, it_m, it_m0, il_m0, bI_rZ, Option.bind_some, bd2_some, Nat.add_zero, Nat.zero_add, if_true, if_false, Bool.false_eq_true, eq_self, hI_R, hJ_R, ng_t, ng_e]
  rcases Nat.lt_or_ge t v with u | u
  · refine pi_no hp h12 h13 pl tp fa (w := nI 1) ?_ ?_
    · show f_X11_plan h 0 (nI v) = _
      simp (disch := first | assumption | omega | decide | ((repeat first | apply lyI | apply lyJ | apply lywI | apply lywJ | apply csI | apply csJ | apply cswI | apply cswJ); assumption)) only [f_X11_plan, f_X11_plan_j23, f_X11_below, f_X11_refuse, S0, SX, LI, ↓li_m1, nI_add, pk_mul, nn_sub, nn_m1, nn_div, nn_rem, nn_nz, nn_mod, nJ_l, lN_add, lN_mul, nn_tb1, nI_bt, nn_and, nn_or, nn_xor, nn_shr, nn_1shl, nn_31, il_p, il_n, it_p, it_n, ie_p, ie_n, ie_b, ie_b1, ie_m, ie_mm, it_m, it_m0, il_m0, bI_rZ, Option.bind_some, bd2_some, Nat.add_zero, Nat.zero_add, if_true, if_false, Bool.false_eq_true, eq_self, hI_R, hJ_R, ng_t, ng_e, e6]
    · show f_X12_plan (hI h 0 17 (nI 1)) 113 (nI v) = _
      have e11' : (hI h 0 17 (nI 1)).2.1 113 11 = nI t := e11
      simp (disch := first | assumption | omega | decide | ((repeat first | apply lyI | apply lyJ | apply lywI | apply lywJ | apply csI | apply csJ | apply cswI | apply cswJ); assumption)) only [f_X12_plan, f_X12_begins, f_X12_refuse, SM, LI, ↓li_m1, nI_add, pk_mul, nn_sub, nn_m1, nn_div, nn_rem, nn_nz, nn_mod, nJ_l, lN_add, lN_mul, nn_tb1, nI_bt, nn_and, nn_or, nn_xor, nn_shr, nn_1shl, nn_31, il_p, il_n, it_p, it_n, ie_p, ie_n, ie_b, ie_b1, ie_m, ie_mm, it_m, it_m0, il_m0, bI_rZ, Option.bind_some, bd2_some, Nat.add_zero, Nat.zero_add, if_true, if_false, Bool.false_eq_true, eq_self, hI_R, hJ_R, ng_t, ng_e, e11']
  rcases Nat.lt_or_ge 300 v with u3 | u3
  · refine pi_no hp h12 h13 pl tp fa (w := nI 1) ?_ ?_
    · show f_X11_plan h 0 (nI v) = _
      simp (disch := first | assumption | omega | decide | ((repeat first | apply lyI | apply lyJ | apply lywI | apply lywJ | apply csI | apply csJ | apply cswI | apply cswJ); assumption)) only [f_X11_plan, f_X11_plan_j23, f_X11_below, f_X11_refuse, S0, SX, LI, ↓li_m1, nI_add, pk_mul, nn_sub, nn_m1, nn_div, nn_rem, nn_nz, nn_mod, nJ_l, lN_add, lN_mul, nn_tb1, nI_bt, nn_and, nn_or, nn_xor, nn_shr, nn_1shl, nn_31, il_p, il_n, it_p, it_n, ie_p, ie_n, ie_b, ie_b1, ie_m, ie_mm, it_m, it_m0, il_m0, bI_rZ, Option.bind_some, bd2_some, Nat.add_zero, Nat.zero_add, if_true, if_false, Bool.false_eq_true, eq_self, hI_R, hJ_R, ng_t, ng_e, e6]
    · show f_X12_plan (hI h 0 17 (nI 1)) 113 (nI v) = _
      have e11' : (hI h 0 17 (nI 1)).2.1 113 11 = nI t := e11
      simp (disch := first | assumption | omega | decide | ((repeat first | apply lyI | apply lyJ | apply lywI | apply lywJ | apply csI | apply csJ | apply cswI | apply cswJ); assumption)) only [f_X12_plan, f_X12_begins, f_X12_refuse, SM, LI, ↓li_m1, nI_add, pk_mul, nn_sub, nn_m1, nn_div, nn_rem, nn_nz, nn_mod, nJ_l, lN_add, lN_mul, nn_tb1, nI_bt, nn_and, nn_or, nn_xor, nn_shr, nn_1shl, nn_31, il_p, il_n, it_p, it_n, ie_p, ie_n, ie_b, ie_b1, ie_m, ie_mm, it_m, it_m0, il_m0, bI_rZ, Option.bind_some, bd2_some, Nat.add_zero, Nat.zero_add, if_true, if_false, Bool.false_eq_true, eq_self, hI_R, hJ_R, ng_t, ng_e, e11']
  rcases hp with rfl | rfl
  · exact o_plan_20 hl hs hn nc nr nv c2 c3 b3 b4 q3 q4 wd rfl h12 h13 pl t9 e6 e11 e5 eb u u3
  · exact o_plan_14 hl hs hn nc nr nv c2 c3 b3 b4 q3 q4 wd rfl h12 h13 pl t9 e6 e11 e5 eb u u3
