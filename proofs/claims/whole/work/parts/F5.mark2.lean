/-! ===== mark, back ===== -/
theorem pl_7 {h : aH} {p o : Nat} {A : Nat → Nat} (pl : PLo h p o A) : h.2.1 p 7 = nI 0 ∨ h.2.1 p 7 = nI 1 := by
  rcases pl with ⟨h1, -⟩ | ⟨K, N, W, F, G, B, ns, h1, -⟩
  · exact Or.inl h1
  · exact Or.inr h1
theorem rt_m : ∀ i, i < 3 → rT 12 i = some (77 + 12 * i) ∧ kT (77 + 12 * i) = 5 ∧ rT (77 + 12 * i) 0 = some (78 + 12 * i) ∧ rT (77 + 12 * i) 1 = some (84 + 12 * i) := by decide +kernel
theorem rt_m2 : ∀ i, i < 3 → ∀ q ∈ RT0, ¬ (q.1 = 77 + 12 * i ∧ q.2.1 = 2) := by decide +kernel
theorem lq_m {h : aH} (hl : LAY h) {i : Nat} (hi : i < 3) : lQ h 25 12 (nI i) = some (77 + 12 * i) := by
  unfold lQ
  rw [if_pos (inb_L hl (by decide) (by decide) (show i < 3 from hi) (by decide)), nI_clamp (by omega)]
  exact hl.2 _ (rT_mem (rt_m i hi).1)
theorem cpS_n {h : aH} {a b y : Nat} (hy : y ≠ 114) : (cpS h a b).2.1 y = h.2.1 y := by
  unfold cpS
  rw [wJ_I, wJ_I, wI_n hy]
theorem cpS_4 {h : aH} {a b : Nat} : (cpS h a b).2.1 114 = setF (h.2.1 114) (400 * b) 400 (fun x => h.2.1 114 (400 * a + x)) := by
  unfold cpS
  rw [wJ_I, wJ_I, wI_s]
theorem cpS_5 {h : aH} {a b : Nat} : (cpS h a b).2.2.1 115 = setF (h.2.2.1 115) (52 * b) 52 (fun x => h.2.2.1 115 (52 * a + x)) := by
  unfold cpS
  rw [wJ_n (by decide), wJ_s]
theorem cpS_6 {h : aH} {a b : Nat} : (cpS h a b).2.2.1 116 = setF (h.2.2.1 116) (44 * b) 44 (fun x => h.2.2.1 116 (44 * a + x)) := by
  unfold cpS
  rw [wJ_s]
theorem ks_cp {h : aH} {a b : Nat} : KS h (cpS h a b) a b := by
  refine ⟨fun x hx => ?_, fun x hx => ?_, fun x hx => ?_⟩
  · rw [cpS_4, setF_in hx]
  · rw [cpS_5, setF_in hx]
  · rw [cpS_6, setF_in hx]
theorem ks_cpn {h : aH} {a b s : Nat} (hs : s ≠ b) : KS h (cpS h a b) s s := by
  refine ⟨fun x hx => ?_, fun x hx => ?_, fun x hx => ?_⟩
  · rw [cpS_4, setF_out (by omega)]
  · rw [cpS_5, setF_out (by omega)]
  · rw [cpS_6, setF_out (by omega)]
theorem fr_cp {h : aH} {a b : Nat} {cI cJ f0 f1 : List Nat} (h1 : 114 ∈ cI) (h2 : 115 ∈ cJ) (h3 : 116 ∈ cJ) : FR h (cpS h a b) cI cJ f0 f1 := ((FR.wI h1 (by decide) (by decide)).tr (FR.wJ h2)).tr (FR.wJ h3)
theorem ks_cong {h h1 h2 h3 : aH} {s t : Nat} (k : KS h1 h2 s t) (e1 : ∀ x, h1.2.1 114 x = h.2.1 114 x) (e2 : h1.2.2.1 115 = h.2.2.1 115) (e3 : h1.2.2.1 116 = h.2.2.1 116) (g1 : ∀ x, h3.2.1 114 x = h2.2.1 114 x) (g2 : h3.2.2.1 115 = h2.2.2.1 115) (g3 : h3.2.2.1 116 = h2.2.2.1 116) : KS h h3 s t := by
  refine ⟨fun x hx => ?_, fun x hx => ?_, fun x hx => ?_⟩
  · rw [g1, k.1 x hx, e1]
  · rw [g2, k.2.1 x hx, e2]
  · rw [g3, k.2.2 x hx, e3]
theorem io_no {h : aH} (i : Inv h) {f g : aH → Option (Int32 × aH)} {w : Int32} (e1 : f h = some (m1, hI h 0 17 w)) (e2 : g (hI h 0 17 w) = some (m1, hI (hI h 0 17 w) 113 3 w)) : IO h f g :=
  io_q i ⟨m1, _, _, e1, e2, (fr_0 (by decide)).tr (fr_1 (by decide)), both_st w⟩
theorem o_mark {h : aH} (iv : Inv h) : IO h (fun h => f_X11_mark h 0) (fun h => f_X12_mark h 113) := by
  obtain ⟨i1, ⟨b, p, i2⟩, ⟨K, K3, k1, k2, k3⟩, i4, i5, i6, i7, i8, i9, i10, i11, i12⟩ := id iv
  obtain ⟨p1, p2, p3, p4, p5, p6, p7, p8, p9, p10, p11, p12⟩ := id i2
  rcases (Nat.lt_or_ge K 3).symm with hK | hK
  · obtain rfl : K = 3 := by omega
    have l0 : LAY (hI h 0 17 (nI 4)) := i1
    have k2' : (hI h 0 17 (nI 4)).2.1 113 47 = nI 3 := k2
    refine io_no iv (w := nI 4) ?_ ?_
    · show f_X11_mark h 0 = _
      simp (disch := first | assumption | omega | decide | ((repeat first | apply lyI | apply lyJ | apply lywI | apply lywJ | apply csI | apply csJ | apply cswI | apply cswJ); assumption)) only [f_X11_mark, f_X11_refuse, S0, LI, ↓li_m1, nI_add, pk_mul, nn_sub, nn_m1, nn_div, nn_rem, nn_nz, nn_mod, nJ_l, lN_add, lN_mul, nn_tb1, nI_bt, nn_and, nn_or, nn_xor, nn_shr, nn_1shl, nn_31, il_p, il_n, it_p, it_n, ie_p, ie_n, ie_b, ie_b1, ie_m, ie_mm, it_m, it_m0, il_m0, bI_rZ, Option.bind_some, bd2_some, Nat.add_zero, Nat.zero_add, if_true, if_false, Bool.false_eq_true, eq_self, hI_R, hJ_R, ng_t, ng_e, k1]
    · show f_X12_mark (hI h 0 17 (nI 4)) 113 = _
      simp (disch := first | assumption | omega | decide | ((repeat first | apply lyI | apply lyJ | apply lywI | apply lywJ | apply csI | apply csJ | apply cswI | apply cswJ); assumption)) only [f_X12_mark, f_X12_refuse, SM, LI, ↓li_m1, nI_add, pk_mul, nn_sub, nn_m1, nn_div, nn_rem, nn_nz, nn_mod, nJ_l, lN_add, lN_mul, nn_tb1, nI_bt, nn_and, nn_or, nn_xor, nn_shr, nn_1shl, nn_31, il_p, il_n, it_p, it_n, ie_p, ie_n, ie_b, ie_b1, ie_m, ie_mm, it_m, it_m0, il_m0, bI_rZ, Option.bind_some, bd2_some, Nat.add_zero, Nat.zero_add, if_true, if_false, Bool.false_eq_true, eq_self, hI_R, hJ_R, ng_t, ng_e, k2']
  obtain ⟨m1', m2', m3', m4'⟩ := rt_m K hK
  have lR : LAY (hR h (77 + 12 * K) 2 (some b.c)) := lay_Rg (rt_m2 K hK) i1
  have pap : PA p := by rcases p10 with rfl | rfl; exact pa_14; exact pa_20
  obtain ⟨g1, c1, f1, a6, a7, ar⟩ := x_cpP (h := hR h (77 + 12 * K) 2 (some b.c)) lR (pa_m K hK) pap (by omega) (by omega) (by omega) (pl_7 p8)
  have l1 := f1.lay lR
  obtain ⟨g2, c2, f2, b4, b5, br⟩ := x_cpM l1 (ma_m K hK) ma_53 (by omega) (by omega) (by omega)
  have l2 := f2.lay l1
  have keep : f_X5_keep h (77 + 12 * K) b.c p 53 = some g2 := by
    have y1 : pR h 5 (77 + 12 * K) 2 b.c = some (hR h (77 + 12 * K) 2 (some b.c)) := if_pos ((lay_kd i1 _ (by rw [m2']; decide)).trans m2')
    have y2 : gR (hR h (77 + 12 * K) 2 (some b.c)) 5 (77 + 12 * K) 0 = some (78 + 12 * K) := gR_L lR m2' (by decide) m3'
    have y3 : ck (hR h (77 + 12 * K) 2 (some b.c)) 8 (78 + 12 * K) = some () := ck_L lR (pa_m K hK).1 (by decide)
    have y4 : gR g1 5 (77 + 12 * K) 1 = some (84 + 12 * K) := gR_L l1 m2' (by decide) m4'
    have y5 : ck g1 6 (84 + 12 * K) = some () := ck_L l1 (ma_m K hK).1 (by decide)
    unfold f_X5_keep
    rw [y1, Option.bind_some, y2, Option.bind_some, y3, Option.bind_some, c1, Option.bind_some, y4, Option.bind_some, y5, Option.bind_some, c2, Option.bind_some]
  have f12 : FR (hR h (77 + 12 * K) 2 (some b.c)) g2 [78 + 12 * K, 79 + 12 * K, 80 + 12 * K, 81 + 12 * K, 82 + 12 * K, 84 + 12 * K, 85 + 12 * K, 86 + 12 * K, 87 + 12 * K, 88 + 12 * K] [] [14, 17] [] := (f1.mono (by intro x hx; simp at hx ⊢; omega) (by decide) (by decide) (by decide)).tr (f2.mono (by intro x hx; simp at hx ⊢; omega) (by decide) (by decide) (by decide))
  let g := hI (hI g2 0 14 (nI (K + 1))) 0 17 (nI 0)
  have fg : FR (hR h (77 + 12 * K) 2 (some b.c)) g [78 + 12 * K, 79 + 12 * K, 80 + 12 * K, 81 + 12 * K, 82 + 12 * K, 84 + 12 * K, 85 + 12 * K, 86 + 12 * K, 87 + 12 * K, 88 + 12 * K] [] [14, 17] [] := (f12.tr (fr_0 (by decide))).tr (fr_0 (by decide))
  have lg : LAY g := fg.lay lR
  have e14 : g2.2.1 0 14 = nI K := (f2.2.2.2.2.1 14 (by decide)).trans ((f1.2.2.2.2.1 14 (by decide)).trans k1)
  have cl : f_X11_mark h 0 = some (nI (K + 1), g) := by
    have y1 := lq_m i1 hK
    have y2 : ck h 5 (77 + 12 * K) = some () := ck_L i1 m2' (by decide)
    simp (disch := first | assumption | omega | decide | ((repeat first | apply lyI | apply lyJ | apply lywI | apply lywJ | apply csI | apply csJ | apply cswI | apply cswJ); assumption)) only [f_X11_mark, f_X11_give, S0, SH52, rI_eq, rI_ne, rI_nk, rJ_eq, rJ_ne, rJ_nk, rI_J, rJ_I, LI, ↓li_m1, nI_add, pk_mul, nn_sub, nn_m1, nn_div, nn_rem, nn_nz, nn_mod, nJ_l, lN_add, lN_mul, nn_tb1, nI_bt, nn_and, nn_or, nn_xor, nn_shr, nn_1shl, nn_31, il_p, il_n, it_p, it_n, ie_p, ie_n, ie_b, ie_b1, ie_m, ie_mm, it_m, it_m0, il_m0, bI_rZ, Option.bind_some, bd2_some, Nat.add_zero, Nat.zero_add, if_true, if_false, Bool.false_eq_true, eq_self, hI_R, hJ_R, ng_t, ng_e, k1, y1, p1, p11, y2, keep, e14]
    rfl
  have e47 : g.2.1 113 47 = nI K := (fg.2.2.2.2.2 47 (by decide)).trans k2
  have cp := r_copies (h := hI g 113 47 (nI (K + 1))) lg (a := 0) (b := K + 1) (by decide) (by omega) (by omega)
  let z := hI (cpS (hI g 113 47 (nI (K + 1))) 0 (K + 1)) 113 3 (nI 0)
  have lz0 : LAY (cpS (hI g 113 47 (nI (K + 1))) 0 (K + 1)) := lg
  have z47 : (cpS (hI g 113 47 (nI (K + 1))) 0 (K + 1)).2.1 113 47 = nI (K + 1) := by
    rw [cpS_n (by decide), rI_eq]
  have rf : f_X12_mark g 113 = some (nI (K + 1), z) := by
    have nk : ¬ nI K = nI 3 := d_ne (by omega) (by decide) (by omega)
    simp (disch := first | assumption | omega | decide | ((repeat first | apply lyI | apply lyJ | apply lywI | apply lywJ | apply csI | apply csJ | apply cswI | apply cswJ); assumption)) only [f_X12_mark, f_X12_gives, SM, rI_eq, rI_ne, rI_nk, rJ_eq, rJ_ne, rJ_nk, rI_J, rJ_I, LI, ↓li_m1, nI_add, pk_mul, nn_sub, nn_m1, nn_div, nn_rem, nn_nz, nn_mod, nJ_l, lN_add, lN_mul, nn_tb1, nI_bt, nn_and, nn_or, nn_xor, nn_shr, nn_1shl, nn_31, il_p, il_n, it_p, it_n, ie_p, ie_n, ie_b, ie_b1, ie_m, ie_mm, it_m, it_m0, il_m0, bI_rZ, Option.bind_some, bd2_some, Nat.add_zero, Nat.zero_add, if_true, if_false, Bool.false_eq_true, eq_self, hI_R, hJ_R, ng_t, ng_e, e47, if_neg nk, cp, z47]
    rfl
  have fz : FR (hR h (77 + 12 * K) 2 (some b.c)) z [78 + 12 * K, 79 + 12 * K, 80 + 12 * K, 81 + 12 * K, 82 + 12 * K, 84 + 12 * K, 85 + 12 * K, 86 + 12 * K, 87 + 12 * K, 88 + 12 * K, 114] [115, 116] [14, 17] [3, 47] := (((fg.mono (by intro x hx; simp at hx ⊢; omega) (by decide) (by decide) (by decide)).tr (fr_1 (by decide))).tr (fr_cp (by simp) (by decide) (by decide))).tr (fr_1 (by decide))
  have hI' : ∀ y, y ≠ 114 → y ≠ 0 → y ≠ 113 → (y < 78 ∨ 89 ≤ y ∨ y < 77 + 12 * K ∨ 89 + 12 * K ≤ y) → (y < 77 + 12 * K ∨ 89 + 12 * K ≤ y) → z.2.1 y = h.2.1 y := fun y y1 y2 y3 y4 y5 => (fz.I y (by simp; omega) y2 y3).trans rfl
  have rr : ∀ y k, ¬ (y = 77 + 12 * K ∧ k = 2) → z.2.2.2 y k = h.2.2.2 y k := fun y k hn => by rw [fz.2.1, rR_ne hn]
  have kc : ∀ c, CS h c → KC h z c := fun c hs => kc_tr (h1 := hR h (77 + 12 * K) 2 (some b.c)) (kc_R (by omega) (by omega) (by omega)) (kc_fr fz (by intro x hx; simp at hx; omega) (by decide) hs.1)
  have g114 : ∀ x, (hI g 113 47 (nI (K + 1))).2.1 114 x = h.2.1 114 x := fun x => by
    rw [rI_ne (by decide), fg.I 114 (by simp; omega) (by decide) (by decide)]
    rfl
  have g115 : (hI g 113 47 (nI (K + 1))).2.2.1 115 = h.2.2.1 115 := fg.J 115 (by decide)
  have g116 : (hI g 113 47 (nI (K + 1))).2.2.1 116 = h.2.2.1 116 := fg.J 116 (by decide)
  have ks : ∀ s, s ≠ K + 1 → KS h z s s := fun s hs => ks_cong (ks_cpn (a := 0) hs) g114 g115 g116 (fun x => rI_ne (by decide)) rfl rfl
  have ksK : KS h z 0 (K + 1) := ks_cong ks_cp g114 g115 g116 (fun x => rI_ne (by decide)) rfl rfl
  have zI : ∀ y, y ≠ 114 → y ≠ 0 → y ≠ 113 → z.2.1 y = g2.2.1 y := fun y y1 y2 y3 => by
    show (hI (cpS (hI g 113 47 (nI (K + 1))) 0 (K + 1)) 113 3 (nI 0)).2.1 y = _
    have f9 : FR g2 z [114] [115, 116] [14, 17] [3, 47] := ((((fr_0 (by decide)).tr (fr_0 (by decide))).tr (fr_1 (by decide))).tr (fr_cp (by decide) (by decide) (by decide))).tr (fr_1 (by decide))
    exact f9.I y (by simpa using y1) y2 y3
  refine ⟨nI (K + 1), g, z, cl, rf, fz.lay lR, ⟨b, p, ?_⟩, ⟨K + 1, by omega, ?_, ?_, fun i hi => ?_⟩, ?_, ?_, ?_, ?_, ?_, ?_, ?_, ?_, ?_⟩
  · refine pb_k (kc _ p3.1) (ks 0 (by omega)) (fun y y1 y2 => hI' y (by omega) (by omega) (by omega) (by omega) (by omega)) (hI' 126 (by decide) (by decide) (by decide) (by omega) (by omega)) (rr _ _ (by omega)) (rr _ _ (by omega)) ?_ p10 ((rr _ _ (by omega)).trans p11) ((rr _ _ (by omega)).trans p12) i2
    refine plo_k (kp_same (fun j hj => hI' _ (by omega) (by omega) (by omega) (by omega) (by omega))) ?_ (fun x _ hx => ?_) p8
    · have := (ks 0 (by omega)).1 7 (by decide)
      rwa [Nat.mul_zero] at this
    · have := (ks 0 (by omega)).1 x hx
      rwa [Nat.mul_zero] at this
  · show (hI (cpS (hI g 113 47 (nI (K + 1))) 0 (K + 1)) 113 3 (nI 0)).2.1 0 14 = _
    rw [rI_ne (by decide), cpS_n (by decide), rI_ne (by decide)]
    show (hI (hI g2 0 14 (nI (K + 1))) 0 17 (nI 0)).2.1 0 14 = _
    rw [rI_nk (by decide), rI_eq]
  · show (hI (cpS (hI g 113 47 (nI (K + 1))) 0 (K + 1)) 113 3 (nI 0)).2.1 113 47 = _
    rw [rI_nk (by decide)]
    exact z47
  · rcases Nat.lt_or_ge i K with u | u
    · obtain ⟨b', mb⟩ := k3 i u
      exact ⟨b', mk_k (kc _ mb.2.1.1) (ks (i + 1) (by omega)) (rr _ _ (by omega)) (fun y y1 y2 => hI' y (by omega) (by omega) (by omega) (by omega) (by omega)) mb⟩
    · obtain rfl : i = K := by omega
      refine ⟨b, ?_, bcl_k (kc _ p3.1) p3, mn_k p9.2.1.1 (m := 53) ⟨?_, ?_, fun j hj x hx => ?_⟩ p4, plo_k (p := p) (o := 0) ⟨?_, ?_, fun j hj x hx => ?_⟩ ?_ (fun x _ hx => ?_) p8, bre_k ksK p9 p7, p9⟩
      · rw [fz.2.1, rR_eq]
      · rw [zI _ (by omega) (by omega) (by omega), b4, f1.I 53 (by simp; omega) (by decide) (by decide)]
        rfl
      · rw [zI _ (by omega) (by omega) (by omega), b5, f1.I 53 (by simp; omega) (by decide) (by decide)]
        rfl
      · rw [zI _ (by omega) (by omega) (by omega), br j hj x hx, f1.I _ (by simp; omega) (by omega) (by omega)]
        rfl
      · rw [zI _ (by omega) (by omega) (by omega), f2.I _ (by simp; omega) (by omega) (by omega), a6]
        rfl
      · rw [zI _ (by omega) (by omega) (by omega), f2.I _ (by simp; omega) (by omega) (by omega), a7]
        rfl
      · rw [zI _ (by omega) (by omega) (by omega), f2.I _ (by simp; omega) (by omega) (by omega), ar j hj x hx]
        rfl
      · have := ksK.1 7 (by decide)
        rwa [Nat.mul_zero] at this
      · have := ksK.1 x hx
        rwa [Nat.mul_zero] at this
  · exact cas_k (h := h) fz.1 (fun i _ => rr _ _ (by omega)) (fun c hs => (kc c hs).2.2 hs) i4
  · exact tr_fr (h := hR h (77 + 12 * K) 2 (some b.c)) fz (by simp; omega) (by simp; omega) (by simp; omega) (by simp; omega) (by decide) (by decide) i5
  · show (hI (cpS (hI g 113 47 (nI (K + 1))) 0 (K + 1)) 113 3 (nI 0)).2.1 0 17 = (hI (cpS (hI g 113 47 (nI (K + 1))) 0 (K + 1)) 113 3 (nI 0)).2.1 113 3
    rw [rI_ne (by decide), rI_eq, cpS_n (by decide), rI_ne (by decide)]
    show (hI (hI g2 0 14 (nI (K + 1))) 0 17 (nI 0)).2.1 0 17 = _
    rw [rI_eq]
  · exact fq_fr fz (by decide) (by decide) i7
  · exact fp_fr fz (by decide) (by decide) (by decide) i8
  · exact sa_fr fz (by simp; omega) (by simp; omega) (by decide) (by decide) i9
  · exact tp_fr fz (by simp; omega) (by simp; omega) (by simp; omega) (by decide) i10
  · exact fa_fr fz (by simp; omega) (by decide) (by decide) i11
  · exact wd_fr fz (by decide) i12
