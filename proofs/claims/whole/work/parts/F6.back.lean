/-! ===== back ===== -/
theorem o_back {h : aH} (iv : Inv h) : IO h (fun h => f_X11_back h 0) (fun h => f_X12_back h 113) := by
  obtain ⟨i1, ⟨b0, p, i2⟩, ⟨K0, K3, k1, k2, k3⟩, i4, i5, i6, i7, i8, i9, i10, i11, i12⟩ := id iv
  obtain ⟨-, -, -, -, -, -, -, -, -, p10, p11, p12⟩ := id i2
  rcases Nat.eq_zero_or_pos K0 with hK | hK
  · subst hK
    have l0 : LAY (hI h 0 17 (nI 6)) := i1
    have k2' : (hI h 0 17 (nI 6)).2.1 113 47 = nI 0 := k2
    refine io_no iv (w := nI 6) ?_ ?_
    · show f_X11_back h 0 = _
      simp (disch := first | assumption | omega | decide | ((repeat first | apply lyI | apply lyJ | apply lywI | apply lywJ | apply csI | apply csJ | apply cswI | apply cswJ); assumption)) only [f_X11_back, f_X11_refuse, S0, LI, ↓li_m1, nI_add, pk_mul, nn_sub, nn_m1, nn_div, nn_rem, nn_nz, nn_mod, nJ_l, lN_add, lN_mul, nn_tb1, nI_bt, nn_and, nn_or, nn_xor, nn_shr, nn_1shl, nn_31, il_p, il_n, it_p, it_n, ie_p, ie_n, ie_b, ie_b1, ie_m, ie_mm, it_m, it_m0, il_m0, bI_rZ, Option.bind_some, bd2_some, Nat.add_zero, Nat.zero_add, if_true, if_false, Bool.false_eq_true, eq_self, hI_R, hJ_R, ng_t, ng_e, k1]
    · show f_X12_back (hI h 0 17 (nI 6)) 113 = _
      simp (disch := first | assumption | omega | decide | ((repeat first | apply lyI | apply lyJ | apply lywI | apply lywJ | apply csI | apply csJ | apply cswI | apply cswJ); assumption)) only [f_X12_back, f_X12_refuse, SM, LI, ↓li_m1, nI_add, pk_mul, nn_sub, nn_m1, nn_div, nn_rem, nn_nz, nn_mod, nJ_l, lN_add, lN_mul, nn_tb1, nI_bt, nn_and, nn_or, nn_xor, nn_shr, nn_1shl, nn_31, il_p, il_n, it_p, it_n, ie_p, ie_n, ie_b, ie_b1, ie_m, ie_mm, it_m, it_m0, il_m0, bI_rZ, Option.bind_some, bd2_some, Nat.add_zero, Nat.zero_add, if_true, if_false, Bool.false_eq_true, eq_self, hI_R, hJ_R, ng_t, ng_e, k2']
  obtain ⟨K, rfl⟩ : ∃ K, K0 = K + 1 := ⟨K0 - 1, by omega⟩
  have hK : K < 3 := by omega
  obtain ⟨b, q1, q2, q3, q4, q5, q6⟩ := k3 K (by omega)
  obtain ⟨m1', m2', m3', m4'⟩ := rt_m K hK
  obtain ⟨c, ec⟩ : ∃ c, c = b.c := ⟨_, rfl⟩
  rw [← ec] at q1
  let h8 := hR (hI h 0 14 (nI K)) 0 11 (some c)
  have l8 : LAY h8 := lay_Rg (h := hI h 0 14 (nI K)) (by decide +kernel) i1
  have pap : PA p := by rcases p10 with rfl | rfl; exact pa_14; exact pa_20
  obtain ⟨g1, c1, f1, a6, a7, ar⟩ := x_cpP (h := h8) l8 (a := p) (b := 78 + 12 * K) pap (pa_m K hK) (by omega) (by omega) (by omega) (by
    have := pl_7 q4
    rwa [show h8.2.1 (78 + 12 * K) 7 = h.2.1 (78 + 12 * K) 7 from rI_ne (by omega)])
  have l1 := f1.lay l8
  let h9 := hR g1 52 4 (some c)
  have l9 : LAY h9 := lay_Rg (by decide +kernel) l1
  obtain ⟨g2, c2, f2, b4, b5, br⟩ := x_cpM (h := h9) l9 (a := 53) (b := 84 + 12 * K) ma_53 (ma_m K hK) (by omega) (by omega) (by omega)
  have l2 := f2.lay l9
  have f81 : FR h8 g1 [p, p + 1, p + 2, p + 3, p + 4, 53, 54, 55, 56, 57] [] [] [] := f1.mono (by intro x hx; simp at hx ⊢; omega) (by decide) (by decide) (by decide)
  have f82 : FR (hR h8 52 4 (some c)) g2 [p, p + 1, p + 2, p + 3, p + 4, 53, 54, 55, 56, 57] [] [] [] := (fr_R f81).tr (f2.mono (by intro x hx; simp at hx ⊢; omega) (by decide) (by decide) (by decide))
  have gI' : ∀ y, y ∉ [p, p + 1, p + 2, p + 3, p + 4, 53, 54, 55, 56, 57] → y ≠ 0 → y ≠ 113 → g2.2.1 y = h.2.1 y := fun y y1 y2 y3 => (f82.I y y1 y2 y3).trans ((fr_0 (h := h) (k := 14) (x := nI K) (cI := []) (cJ := []) (f0 := [14]) (f1 := []) (by decide)).I y (by simp) y2 y3)
  have kcH : ∀ c', CS h c' → KC h g2 c' := fun c' hs => kc_tr (h1 := hR h8 52 4 (some c)) (kc_tr (h1 := h8) (kc_tr (h1 := hI h 0 14 (nI K)) (kc_fr (fr_0 (cI := []) (cJ := []) (f0 := [14]) (f1 := []) (by decide)) (by decide) (by decide) hs.1) (kc_R (by decide) (by decide) (by decide))) (kc_R (by decide) (by decide) (by decide))) (kc_fr f82 (by intro x hx; simp at hx; omega) (by decide) hs.1)
  have mn2 : MN g2 53 b.n b.d b.M := by
    refine mn_k q6.2.1.1 (m := 84 + 12 * K) ⟨?_, ?_, fun j hj x hx => ?_⟩ q3
    · rw [b4]
      show g1.2.1 (84 + 12 * K) 4 = _
      rw [f1.I _ (by simp; omega) (by omega) (by omega)]
      exact rI_ne (by omega)
    · rw [b5]
      show g1.2.1 (84 + 12 * K) 5 = _
      rw [f1.I _ (by simp; omega) (by omega) (by omega)]
      exact rI_ne (by omega)
    · rw [br j hj x hx]
      show g1.2.1 (84 + 12 * K + (1 + j)) x = _
      rw [f1.I _ (by simp; omega) (by omega) (by omega)]
      exact rI_ne (by omega)
  obtain ⟨s2, -, cc2, nc2⟩ := bcl_k (kcH b.c q2.1) q2
  have r52 : g2.2.2.2 52 4 = some b.c := by
    rw [f82.2.1, rR_eq, ec]
  obtain ⟨g3, rb, f3, hr3⟩ := k_rebuild52 s2 cc2 q6.1.1 l2 r52 mn2 q6.2.1
  have l3 := f3.lay l2
  let g := hI g3 0 17 (nI 0)
  have fg : FR (hR h8 52 4 (some c)) g [p, p + 1, p + 2, p + 3, p + 4, 52, 53, 54, 55, 56, 57, 58, 59] [] [17] [] := ((f82.mono (by intro x hx; simp at hx ⊢; omega) (by decide) (by decide) (by decide)).tr (f3.mono (by intro x hx; simp at hx ⊢; omega) (by decide) (by decide) (by decide))).tr (fr_0 (by decide))
  have lg : LAY g := l3
  have e14 : g3.2.1 0 14 = nI K := by
    rw [f3.2.2.2.2.1 14 (by decide), f82.2.2.2.2.1 14 (by decide)]
    show (hI h 0 14 (nI K)).2.1 0 14 = _
    exact rI_eq
  have cl : f_X11_back h 0 = some (nI K, g) := by
    have lh3 : LAY (hI h 0 14 (nI K)) := i1
    have y1 := lq_m lh3 hK
    have y2 : gR (hI h 0 14 (nI K)) 5 (77 + 12 * K) 2 = some c := (gR_D lh3 2 m2' (by decide)).trans q1
    have y3 : pR (hI h 0 14 (nI K)) 11 0 11 c = some h8 := if_pos (lay_kd lh3 0 (by decide))
    have y4 : h8.2.2.2 0 12 = some p := (rR_ne (by decide)).trans p11
    have y5 : gR h8 5 (77 + 12 * K) 0 = some (78 + 12 * K) := gR_L l8 m2' (by decide) m3'
    have y6 : ck h8 8 p = some () := ck_L l8 pap.1 (by decide)
    have y7 : gR g1 5 (77 + 12 * K) 2 = some c := by
      rw [gR_D l1 2 m2' (by decide), f1.2.1]
      exact (rR_ne (by omega)).trans q1
    have y8 : gR g1 5 (77 + 12 * K) 1 = some (84 + 12 * K) := gR_L l1 m2' (by decide) m4'
    have y9 : f_X3_resume g1 52 c (84 + 12 * K) = some g3 := by
      have w1 : pR g1 3 52 4 c = some h9 := if_pos (lay_kd l1 52 (by decide))
      have w2 : gR h9 3 52 0 = some 53 := gR_L l9 (by decide) (by decide) (by decide +kernel)
      have w3 : ck h9 6 53 = some () := ck_L l9 (by decide) (by decide)
      have w4 : ck g2 3 52 = some () := ck_L l2 (by decide) (by decide)
      unfold f_X3_resume
      rw [w1, Option.bind_some, w2, Option.bind_some, w3, Option.bind_some, c2, Option.bind_some, w4, Option.bind_some, rb, Option.bind_some]
    have y10 : (hI h 0 14 (nI K)).2.1 0 14 = nI K := rI_eq
    have nk : ¬ nI (K + 1) = nI 0 := d_ne (by omega) (by decide) (by omega)
    have km : nI (K + 1) - nI 1 = nI K := by rw [← nI_1]; exact Int32.add_sub_cancel ..
    have y11 : ck g1 3 52 = some () := ck_L l1 (by decide) (by decide)
    unfold f_X11_back
    simp (disch := first | assumption | omega | decide | ((repeat first | apply lyI | apply lyJ | apply lywI | apply lywJ | apply csI | apply csJ | apply cswI | apply cswJ); assumption)) only [f_X11_give, S0, LI, ↓li_m1, nI_add, pk_mul, nn_sub, nn_m1, nn_div, nn_rem, nn_nz, nn_mod, nJ_l, lN_add, lN_mul, nn_tb1, nI_bt, nn_and, nn_or, nn_xor, nn_shr, nn_1shl, nn_31, il_p, il_n, it_p, it_n, ie_p, ie_n, ie_b, ie_b1, ie_m, ie_mm, it_m, it_m0, il_m0, bI_rZ, Option.bind_some, bd2_some, Nat.add_zero, Nat.zero_add, if_true, if_false, Bool.false_eq_true, eq_self, hI_R, hJ_R, ng_t, ng_e, k1, if_neg nk, km, y10, y1, y2, y3, y4, y5, y6, c1, y7, y8, y11, y9, e14]
    rfl
  have e47 : g.2.1 113 47 = nI (K + 1) := (fg.2.2.2.2.2 47 (by decide)).trans k2
  have cp := r_copies (h := g) lg (a := K + 1) (b := 0) (by omega) (by decide) (by omega)
  have z47 : (cpS g (K + 1) 0).2.1 113 47 = nI (K + 1) := by
    rw [cpS_n (by decide)]
    exact e47
  let z := hI (cpS g (K + 1) 0) 113 47 (nI K)
  have lz : LAY z := lg
  have fz : FR (hR h8 52 4 (some c)) z [p, p + 1, p + 2, p + 3, p + 4, 52, 53, 54, 55, 56, 57, 58, 59, 114] [115, 116] [17] [47] := ((fg.mono (by intro x hx; simp at hx ⊢; omega) (by decide) (by decide) (by decide)).tr (fr_cp (by simp) (by decide) (by decide))).tr (fr_1 (by decide))
  have g114 : ∀ x, g.2.1 114 x = h.2.1 114 x := fun x => by
    rw [fg.I 114 (by simp; omega) (by decide) (by decide)]
    show (hI h 0 14 (nI K)).2.1 114 x = _
    exact rI_ne (by decide)
  have g115 : g.2.2.1 115 = h.2.2.1 115 := (fg.J 115 (by decide)).trans rfl
  have g116 : g.2.2.1 116 = h.2.2.1 116 := (fg.J 116 (by decide)).trans rfl
  have ksz : ∀ s, s ≠ 0 → KS h z s s := fun s hs => ks_cong (ks_cpn (a := K + 1) hs) g114 g115 g116 (fun x => rI_ne (by decide)) rfl rfl
  have ks0 : KS h z (K + 1) 0 := ks_cong ks_cp g114 g115 g116 (fun x => rI_ne (by decide)) rfl rfl
  have br0 : BRe z 0 b := bre_k ks0 q6 q5
  obtain ⟨w, rl, fw, syw⟩ := r_lays lz (cm_0.mp br0.1) q6.1.1 q6.1.2.1.2.1
  have lw := fw.lay lz
  have w47 : w.2.1 113 47 = nI K := by
    rw [fw.2.2.2.2.2 47 (by decide)]
    exact rI_eq
  have rf : f_X12_back g 113 = some (nI K, hI w 113 3 (nI 0)) := by
    have nk : ¬ nI (K + 1) = nI 0 := d_ne (by omega) (by decide) (by omega)
    have km : nI (K + 1) - nI 1 = nI K := by rw [← nI_1]; exact Int32.add_sub_cancel ..
    have lc : LAY (cpS g (K + 1) 0) := lg
    have rl' : f_X12_laysAnswers (hI (cpS g (K + 1) 0) 113 47 (nI K)) 113 = some w := rl
    simp (disch := first | assumption | omega | decide | ((repeat first | apply lyI | apply lyJ | apply lywI | apply lywJ | apply csI | apply csJ | apply cswI | apply cswJ); assumption)) only [f_X12_back, f_X12_gives, SM, LI, ↓li_m1, nI_add, pk_mul, nn_sub, nn_m1, nn_div, nn_rem, nn_nz, nn_mod, nJ_l, lN_add, lN_mul, nn_tb1, nI_bt, nn_and, nn_or, nn_xor, nn_shr, nn_1shl, nn_31, il_p, il_n, it_p, it_n, ie_p, ie_n, ie_b, ie_b1, ie_m, ie_mm, it_m, it_m0, il_m0, bI_rZ, Option.bind_some, bd2_some, Nat.add_zero, Nat.zero_add, if_true, if_false, Bool.false_eq_true, eq_self, hI_R, hJ_R, ng_t, ng_e, e47, if_neg nk, cp, z47, km, rl', w47]
  have fv : FR (hR h8 52 4 (some c)) (hI w 113 3 (nI 0)) [p, p + 1, p + 2, p + 3, p + 4, 52, 53, 54, 55, 56, 57, 58, 59, 114, 126] [115, 116, 127, 128] [17] [47, 3] := ((fz.mono (by intro x hx; simp at hx ⊢; omega) (by decide) (by decide) (by decide)).tr (fw.mono (by intro x hx; simp at hx ⊢; omega) (by decide) (by decide) (by decide))).tr (fr_1 (by decide))
  have fR8 : FR (hR (hR h 0 11 (some c)) 52 4 (some c)) (hR h8 52 4 (some c)) [] [] [14] [] := by
    have : FR h (hI h 0 14 (nI K)) [] [] [14] [] := fr_0 (by decide)
    exact fr_R (fr_R this)
  have fV : FR (hR (hR h 0 11 (some c)) 52 4 (some c)) (hI w 113 3 (nI 0)) [p, p + 1, p + 2, p + 3, p + 4, 52, 53, 54, 55, 56, 57, 58, 59, 114, 126] [115, 116, 127, 128] [14, 17] [47, 3] := (fR8.mono (by simp) (by decide) (by decide) (by decide)).tr (fv.mono (by intro x hx; exact hx) (by decide) (by decide) (by decide))
  have fgv : FR g2 (hI w 113 3 (nI 0)) [52, 58, 59, 114, 126] [115, 116, 127, 128] [17] [47, 3] := ((((f3.mono (by decide) (by decide) (by decide) (by decide)).tr (fr_0 (by decide))).tr (fr_cp (a := K + 1) (b := 0) (by decide) (by decide) (by decide))).tr (fr_1 (k := 47) (x := nI K) (by decide)) |>.tr (fw.mono (by decide) (by decide) (by decide) (by decide))).tr (fr_1 (by decide))
  have f3v : FR g3 (hI w 113 3 (nI 0)) [114, 126] [115, 116, 127, 128] [17] [47, 3] := ((((fr_0 (by decide)).tr (fr_cp (a := K + 1) (b := 0) (by decide) (by decide) (by decide))).tr (fr_1 (k := 47) (x := nI K) (by decide))).tr (fw.mono (by decide) (by decide) (by decide) (by decide))).tr (fr_1 (by decide))
  have fzv : FR z (hI w 113 3 (nI 0)) [126] [127, 128] [] [3] := (fw.mono (by decide) (by decide) (by decide) (by decide)).tr (fr_1 (by decide))
  have rr : ∀ y k, ¬ (y = 0 ∧ k = 11) → ¬ (y = 52 ∧ k = 4) → (hI w 113 3 (nI 0)).2.2.2 y k = h.2.2.2 y k := fun y k h1 h2 => by rw [fV.2.1, rR_ne h2, rR_ne h1]
  have kc : ∀ c', CS h c' → KC h (hI w 113 3 (nI 0)) c' := fun c' hs => kc_tr (kcH c' hs) (kc_fr fgv (by decide) (by decide) hs.1)
  have ks : ∀ s, s ≠ 0 → KS h (hI w 113 3 (nI 0)) s s := fun s hs => ks_cong (ksz s hs) (fun _ => rfl) rfl rfl (fun x => by rw [fzv.I 114 (by decide) (by decide) (by decide)]) (fzv.J 115 (by decide)) (fzv.J 116 (by decide))
  have ks1 : KS h (hI w 113 3 (nI 0)) (K + 1) 0 := ks_cong ks0 (fun _ => rfl) rfl rfl (fun x => by rw [fzv.I 114 (by decide) (by decide) (by decide)]) (fzv.J 115 (by decide)) (fzv.J 116 (by decide))
  refine ⟨nI K, g, hI w 113 3 (nI 0), cl, rf, lw, ⟨b, p, ?_⟩, ⟨K, by omega, ?_, ?_, fun i hi => ?_⟩, ?_, ?_, ?_, ?_, ?_, ?_, ?_, ?_, ?_⟩
  · refine ⟨?_, ?_, bcl_k (kc b.c q2.1) q2, mn_k q6.2.1.1 (km_same (fun j hj => fgv.I _ (by simp; omega) (by omega) (by omega))) mn2, hr_k (f3v.I 52 (by decide) (by decide) (by decide)) (f3v.I 58 (by decide) (by decide) (by decide)) (f3v.I 59 (by decide) (by decide) (by decide)) hr3, ?_, bre_k ks1 q6 q5, ?_, q6, p10, (rr _ _ (by decide) (by decide)).trans p11, (rr _ _ (by decide) (by decide)).trans p12⟩
    · rw [fV.2.1, rR_ne (by decide), rR_eq, ec]
    · rw [fV.2.1, rR_eq, ec]
    · exact syw
    · refine plo_k (p := 78 + 12 * K) (o := 400 * (K + 1)) ⟨?_, ?_, fun j hj x hx => ?_⟩ ?_ (fun x _ hx => ?_) q4
      · rw [fgv.I p (by simp; omega) (by omega) (by omega), f2.I p (by simp; omega) (by omega) (by omega)]
        show g1.2.1 p 6 = _
        rw [a6]
        exact rI_ne (by omega)
      · rw [fgv.I p (by simp; omega) (by omega) (by omega), f2.I p (by simp; omega) (by omega) (by omega)]
        show g1.2.1 p 7 = _
        rw [a7]
        exact rI_ne (by omega)
      · rw [fgv.I _ (by simp; omega) (by omega) (by omega), f2.I _ (by simp; omega) (by omega) (by omega)]
        show g1.2.1 (p + (1 + j)) x = _
        rw [ar j hj x hx]
        exact rI_ne (by omega)
      · have := ks1.1 7 (by decide)
        rwa [Nat.mul_zero] at this
      · have := ks1.1 x hx
        rwa [Nat.mul_zero] at this
  · rw [f3v.2.2.2.2.1 14 (by decide)]
    exact e14
  · rw [rI_nk (by decide)]
    exact w47
  · obtain ⟨b', mb⟩ := k3 i (by omega)
    refine ⟨b', mk_k (kc _ mb.2.1.1) (ks (i + 1) (by omega)) (rr _ _ (by omega) (by omega)) (fun y y1 y2 => ?_) mb⟩
    rw [fV.I y (by simp; omega) (by omega) (by omega)]
    rfl
  · exact cas_k (h := h) fV.1 (fun i _ => rr _ _ (by omega) (by omega)) (fun c' hs => (kc c' hs).2.2 hs) i4
  · exact tr_fr (h := hR (hR h 0 11 (some c)) 52 4 (some c)) fV (by simp; omega) (by simp; omega) (by simp; omega) (by simp; omega) (by decide) (by decide) i5
  · show (hI w 113 3 (nI 0)).2.1 0 17 = (hI w 113 3 (nI 0)).2.1 113 3
    rw [rI_eq, rI_ne (by decide), fw.2.2.2.2.1 17 (by decide)]
    show (hI (cpS g (K + 1) 0) 113 47 (nI K)).2.1 0 17 = _
    rw [rI_ne (by decide), cpS_n (by decide)]
    exact rI_eq
  · exact fq_fr fV (by decide) (by decide) i7
  · exact fp_fr fV (by decide) (by decide) (by decide) i8
  · exact sa_fr fV (by simp; omega) (by simp; omega) (by decide) (by decide) i9
  · exact tp_fr fV (by simp; omega) (by simp; omega) (by simp; omega) (by decide) i10
  · exact fa_fr fV (by simp; omega) (by decide) (by decide) i11
  · exact wd_fr fV (by decide) i12
