/-! ===== court ===== -/
/-- what a text of a case does not touch -/
def CTr (h : aH) : Prop := LAY h ∧ MKs h ∧ CAs h ∧ TR h ∧ FQ h ∧ FP h ∧ SA h ∧ WDS h
theorem inv_ctr {h : aH} (iv : Inv h) : CTr h := by
  obtain ⟨i1, i2, i3, i4, i5, i6, i7, i8, i9, i10, i11, i12⟩ := iv
  exact ⟨i1, i3, i4, i5, i7, i8, i9, i12⟩
theorem ctr_R {h : aH} {a k : Nat} {x : Option Nat} (hak : (a = 42 ∧ k = 6) ∨ (a = 0 ∧ k = 11) ∨ (a = 52 ∧ k = 4)) (c : CTr h) : CTr (hR h a k x) := by
  obtain ⟨i1, i3, i4, i5, i7, i8, i9, i12⟩ := c
  have rt : ∀ q ∈ RT0, ¬ (q.1 = a ∧ q.2.1 = k) := by
    have r1 : ∀ q ∈ RT0, ¬ (q.1 = 42 ∧ q.2.1 = 6) ∧ ¬ (q.1 = 0 ∧ q.2.1 = 11) ∧ ¬ (q.1 = 52 ∧ q.2.1 = 4) := by decide +kernel
    intro q hq
    obtain ⟨y1, y2, y3⟩ := r1 q hq
    rcases hak with ⟨rfl, rfl⟩ | ⟨rfl, rfl⟩ | ⟨rfl, rfl⟩
    · exact y1
    · exact y2
    · exact y3
  have kc : ∀ c', KC h (hR h a k x) c' := fun c' => kc_R (by omega) (by omega) (by omega)
  exact ⟨lay_Rg rt i1, mks_k ⟨fun j hj => rR_ne (by omega), fun _ _ _ => rfl, fun s _ _ => ⟨fun _ _ => rfl, fun _ _ => rfl, fun _ _ => rfl⟩, rfl, rfl⟩ (fun j b _ => kc b.c) i3, cas_k (h := h) rfl (fun i _ => rR_ne (by omega)) (fun c' => (kc c').2.2) i4, i5, i7, i8, i9, i12⟩
def CTI (c : Nat) : List Nat := [4, 7, 8, 9, 14, 20, 42, 43, 44, 45, 46, 47, 48, 49, 50, 51, 52, 53, 58, 59, 114, 121, 122, 124, 126, c, c + 1, c + 2, c + 3, c + 4, c + 5, c + 6, c + 7, c + 8, c + 9, c + 10, c + 11, c + 12, c + 13, c + 14, c + 15]
def CTJ (c : Nat) : List Nat := [4, 10, 49, 50, 51, 115, 116, 123, 127, 128, c + 2]
theorem al_ne {c d j : Nat} (hc : ALc c) (hd : ALc d) (h : d ≠ c) (j16 : j < 16) : (d + j < c ∨ c + 16 ≤ d + j) ∧ d + j ≠ 0 ∧ d + j ≠ 113 ∧ (d + j < 42 → 26 ≤ d + j) ∧ (42 ≤ d + j → 136 ≤ d + j) := by
  unfold ALc at hc hd
  omega
theorem cti_n {c d j : Nat} (hc : ALc c) (hd : ALc d) (h : d ≠ c) (j16 : j < 16) : d + j ∉ CTI c ∧ d + j ∉ CTJ c := by
  obtain ⟨y1, y2, y3, y4, y5⟩ := al_ne hc hd h j16
  have a : ∀ x, x ∈ CTI c → (x < 26 ∨ (42 ≤ x ∧ x < 136)) ∨ (c ≤ x ∧ x < c + 16) := fun x hx => by
    unfold CTI at hx
    simp at hx
    omega
  have b : ∀ x, x ∈ CTJ c → (x < 26 ∨ (42 ≤ x ∧ x < 136)) ∨ (c ≤ x ∧ x < c + 16) := fun x hx => by
    unfold CTJ at hx
    simp at hx
    omega
  exact ⟨fun hm => by have := a _ hm; omega, fun hm => by have := b _ hm; omega⟩
theorem kc_ct {h k : aH} {c d : Nat} {f0 f1 : List Nat} (fr : FR h k (CTI c) (CTJ c) f0 f1) (hc : ALc c) (hd : ALc d) (ne : d ≠ c) : KC h k d :=
  ⟨fun j hj => fr.I _ (cti_n hc hd ne hj).1 (al_ne hc hd ne hj).2.1 (al_ne hc hd ne hj).2.2.1, fr.J _ (cti_n hc hd ne (show 2 < 16 by decide)).2, fun s => cs_fr fr s⟩
theorem inv_ct {h k : aH} {c K : Nat} (ct : CTr h) (al : ALc c) (K3 : K ≤ 3) (k14 : h.2.1 0 14 = nI K) (nm : ∀ i, i < K → h.2.2.2 (77 + 12 * i) 2 ≠ some c) (fr : FR h k (CTI c) (CTJ c) [17] CF1) (lo : ∀ s, 1 ≤ s → s < 4 → KS h k s s) (pb : ∃ b p, PB k b p) (st : ST k) (tp : TP k) (fa : FA k) : Inv k := by
  obtain ⟨i1, i3, i4, i5, i7, i8, i9, i12⟩ := ct
  have c0 : c = 26 ∨ 136 ≤ c := by
    rcases al with e | e
    · exact Or.inl e
    · exact Or.inr e.1
  have nI' : ∀ x, x < 26 ∨ (41 < x ∧ x < 136) → x ∈ CTI c → x ∈ [4, 7, 8, 9, 14, 20, 42, 43, 44, 45, 46, 47, 48, 49, 50, 51, 52, 53, 58, 59, 114, 121, 122, 124, 126] := fun x hx hm => by
    unfold CTI at hm
    simp at hm ⊢
    omega
  have nJ' : ∀ x, x < 26 ∨ (41 < x ∧ x < 136) → x ∈ CTJ c → x ∈ [4, 10, 49, 50, 51, 115, 116, 123, 127, 128] := fun x hx hm => by
    unfold CTJ at hm
    simp at hm ⊢
    omega
  have fI : ∀ y, (y < 26 ∨ (41 < y ∧ y < 136)) → y ∉ [4, 7, 8, 9, 14, 20, 42, 43, 44, 45, 46, 47, 48, 49, 50, 51, 52, 53, 58, 59, 114, 121, 122, 124, 126] → y ≠ 0 → y ≠ 113 → k.2.1 y = h.2.1 y := fun y h1 h2 h3 h4 => fr.I y (fun hm => h2 (nI' y h1 hm)) h3 h4
  have fJ : ∀ y, (y < 26 ∨ (41 < y ∧ y < 136)) → y ∉ [4, 10, 49, 50, 51, 115, 116, 123, 127, 128] → k.2.2.1 y = h.2.2.1 y := fun y h1 h2 => fr.J y (fun hm => h2 (nJ' y h1 hm))
  refine ⟨fr.lay i1, pb, ?_, cas_fr fr i4, ?_, st, ?_, ?_, ?_, tp, fa, ?_⟩
  · obtain ⟨K', K3', k1, k2, k3⟩ := i3
    have eK : K' = K := (nI_eq (by omega) (by omega)).mp (k1.symm.trans k14)
    subst eK
    refine ⟨K', K3', (fr.2.2.2.2.1 14 (by decide)).trans k1, (fr.2.2.2.2.2 47 (by decide)).trans k2, fun i hi => ?_⟩
    obtain ⟨b, mb⟩ := k3 i hi
    exact ⟨b, mk_k (kc_ct fr al mb.2.1.2.1 (fun e => nm i hi (by rw [mb.1, e]))) (lo (i + 1) (by omega) (by omega)) (by rw [fr.2.1]) (fun y y1 y2 => fI y (by omega) (by simp; omega) (by omega) (by omega)) mb⟩
  · unfold TR
    rw [fI 1 (by decide) (by decide) (by decide) (by decide), fI 2 (by decide) (by decide) (by decide) (by decide), fI 117 (by decide) (by decide) (by decide) (by decide), fI 118 (by decide) (by decide) (by decide) (by decide), fJ 3 (by decide) (by decide), fJ 119 (by decide) (by decide)]
    exact i5
  · unfold FQ
    rw [fJ 0 (by decide) (by decide), fJ 113 (by decide) (by decide)]
    exact i7
  · unfold FP
    rw [fr.2.2.2.2.1 15 (by decide), fr.2.2.2.2.2 37 (by decide), fr.2.2.2.2.2 38 (by decide)]
    exact i8
  · unfold SA
    rw [fr.2.2.2.2.1 16 (by decide), fr.2.2.2.2.2 45 (by decide), fI 13 (by decide) (by decide) (by decide) (by decide), fI 135 (by decide) (by decide) (by decide) (by decide)]
    exact i9
  · intro x hx
    rw [fJ 6 (by decide) (by decide)]
    exact i12 x hx
theorem fr_lc {h k : aH} {c : Nat} (f : FR h k (LCc c) (LJc c) [] []) : FR h k (CTI c) (CTJ c) [17] CF1 := f.mono (by intro x hx; unfold LCc at hx; unfold CTI; simp at hx ⊢; omega) (by intro x hx; unfold LJc at hx; unfold CTJ; simp at hx ⊢; omega) (by simp) (by simp)
theorem pl_there {h : aH} {p o : Nat} {A : Nat → Nat} (hp : h.2.1 p 7 = nI 0) (h7 : h.2.1 114 (o + 7) = m1) : PLo h p o A := Or.inl ⟨hp, h7⟩
theorem c0_ml {c : Nat} (hc : ALc c) : c = 26 ∨ 136 ≤ c := by
  rcases hc with e | e
  · exact Or.inl e
  · exact Or.inr e.1
theorem cti_lo {c y : Nat} (hc : ALc c) (hy : y < 26 ∨ (41 < y ∧ y < 136)) (hn : y ∉ [4, 7, 8, 9, 14, 20, 42, 43, 44, 45, 46, 47, 48, 49, 50, 51, 52, 53, 58, 59, 114, 121, 122, 124, 126]) : y ∉ CTI c := fun hm => by
  have := c0_ml hc
  apply hn
  unfold CTI at hm
  simp at hm ⊢
  omega
set_option maxHeartbeats 4000000 in
theorem o_court1 {h : aH} (iv : Inv h) {t n : Nat} (t9 : t ≤ 900) (e6 : h.2.1 4 6 = nI t) (nt : n ≤ t) : IO h (fun h => f_X11_court h 0 (nI n)) (fun h => f_X12_court h 113 (nI n)) := by
  obtain ⟨c, h5, K, fc, iv5, hs, al, now, K3, k14, nmk, e46⟩ := x_free iv
  have ct := inv_ctr iv5
  obtain ⟨l5, ⟨b, p, i2⟩, mks, i4, i5, i6, i7, i8, i9, ⟨t', t9', q46, q11, q5, qb⟩, i11, i12⟩ := id iv5
  have et : nI t' = nI t := by rw [← q46, e46, e6]
  rw [et] at q46 q11
  obtain ⟨p1, p2, p3, p4, p5, p6, p7, p8, p9, p10, p11, p12⟩ := id i2
  have c0 := hs.1
  have bc : b.c ≠ c := fun e => now (by rw [p1, e])
  obtain ⟨T, hT⟩ : ∃ T : Nat → Nat, ∀ j, T j < 256 ∧ h5.2.1 5 j = bS (T j) := ⟨fun j => (bS_ex _ (qb j)).choose, fun j => (bS_ex _ (qb j)).choose_spec⟩
  obtain ⟨h7, m, r7, f7, lc⟩ := x_open l5 (T := T) ⟨fun j => (hT j).1, fun j => (hT j).2⟩ i12 (n := n) (by omega)
  have l7 := lc.1
  have s7 := cs_fr f7 hs
  obtain ⟨o, xc, rf⟩ := x_case lc s7
  have hl := iv.1
  have hd : f_X11_court h 0 (nI n) = bd2 (f_X2_readCase h7 42 c) fun t9 h10 => if t9 = nI 0 then (ck h10 11 0).bind fun _ => bd2 (f_X11_refuse h10 0 (9 : Int32)) fun t19 h20 => some (t19, h20) else (pR h10 11 0 11 c).bind fun h11 => (gR h11 11 0 12).bind fun t12 => (pZ h11 8 t12 7 (0 : Int32)).bind fun h13 => (gR h13 11 0 6).bind fun t14 => (ck h13 3 t14).bind fun _ => (f_X3_begin h13 t14 c).bind fun h15 => (gI h15 1 c 15).bind fun t16 => (ck h15 11 0).bind fun _ => bd2 (f_X11_give h15 0 t16) fun t17 h18 => some (t17, h18) := by
    simp (disch := first | assumption | omega | decide | ((repeat first | apply lyI | apply lyJ | apply lywI | apply lywJ | apply csI | apply csJ | apply cswI | apply cswJ); assumption)) only [f_X11_court, f_X11_below, S0, SX, SR, LI, ↓li_m1, nI_add, pk_mul, nn_sub, nn_m1, nn_div, nn_rem, nn_nz, nn_mod, nJ_l, lN_add, lN_mul, nn_tb1, nI_bt, nn_and, nn_or, nn_xor, nn_shr, nn_1shl, nn_31, il_p, il_n, it_p, it_n, ie_p, ie_n, ie_b, ie_b1, ie_m, ie_mm, it_m, it_m0, il_m0, bI_rZ, Option.bind_some, bd2_some, Nat.add_zero, Nat.zero_add, if_true, if_false, Bool.false_eq_true, eq_self, hI_R, hJ_R, ng_t, ng_e, e6, fc, r7]
  have of : ∀ f q, o = .inl (f, q) → f ≠ 0 ∧ f < 100 := fun f q e => by
    subst e
    exact ⟨xc.1, xc.2.1⟩
  have od : ∀ i A V Bv Q, o = .inr (i, A, V, Bv, Q) → DV A V Bv Q := fun i A V Bv Q e => by
    subst e
    exact xc.1
  let h6 := hR h5 42 6 (some c)
  have f76 : FR h6 (hR h7 42 6 (some c)) [4, 7, 8, 9] [4, 10] [] [] := fr_R f7
  have f76' : FR h6 (hR h7 42 6 (some c)) (CTI c) (CTJ c) [17] CF1 := f76.mono (by intro x hx; unfold CTI; simp at hx ⊢; omega) (by intro x hx; unfold CTJ; simp at hx ⊢; omega) (by simp) (by simp)
  have ct6 : CTr h6 := ctr_R (Or.inl ⟨rfl, rfl⟩) ct
  /- the reference behind a heap of the class -/
  have ref : ∀ k : aH, LAY k → (∀ j, k.2.1 120 j = h5.2.1 120 j) → k.2.1 113 11 = h5.2.1 113 11 → k.2.1 114 = h5.2.1 114 → k.2.2.1 115 = h5.2.2.1 115 → ∃ k', f_X12_court k 113 (nI n) = some (RCr o, k') ∧ RCo k k' o := fun k kl t1 t2 t3 t4 => by
    refine r_court kl (T := T) (fun j => (hT j).1) (fun j => by rw [t1, ← q5]; exact (hT j).2) (n := n) (t := t) (t2.trans q11) nt t9 (A0 := b.A) (P0 := b.P) (Q0 := b.Q) ?_ p9.1.1 of od rf
    have := cm_0.mp p7.1
    exact cm_lo (k := h5) (fun x _ => by rw [t3]) (fun x _ => by rw [t4]) this
  rcases o with ⟨f, q⟩ | ⟨i, A, V, Bv, Q⟩
  · obtain ⟨f0, f9, h10, e10, f10, fl⟩ := xc
    have l10 := fl.1
    let k := hI h10 0 17 (nI 9)
    have fk : FR h6 k (CTI c) (CTJ c) [17] CF1 := (f76'.tr (fr_lc f10)).tr (fr_0 (by decide))
    have lk : LAY k := l10
    have kI : ∀ y, (y < 26 ∨ (41 < y ∧ y < 136)) → y ≠ 0 → y ≠ 113 → y ∉ [4, 7, 8, 9] → y ∉ [42, 43, 44, 45, 46, 47, 48, 49, 50, 51] → k.2.1 y = h5.2.1 y := fun y h1 h2 h3 h4 h5' => by
      have a1 : k.2.1 y = h10.2.1 y := (fr_0 (h := h10) (k := 17) (x := nI 9) (cI := []) (cJ := []) (f0 := [17]) (f1 := []) (by decide)).I y (by simp) h2 h3
      have a2 : h10.2.1 y = (hR h7 42 6 (some c)).2.1 y := f10.I y (fun hm => by
        unfold LCc at hm
        simp at hm h4 h5'
        omega) h2 h3
      have a3 : h7.2.1 y = h5.2.1 y := f7.I y h4 h2 h3
      rw [a1, a2]
      exact a3
    have kJ : ∀ y, (y < 26 ∨ (41 < y ∧ y < 136)) → y ∉ [4, 10] → y ∉ [49, 50, 51] → k.2.2.1 y = h5.2.2.1 y := fun y h1 h4 h5' => by
      have a2 : h10.2.2.1 y = (hR h7 42 6 (some c)).2.2.1 y := f10.J y (fun hm => by
        unfold LJc at hm
        simp at hm h4 h5'
        omega)
      have a3 : h7.2.2.1 y = h5.2.2.1 y := f7.J y h4
      show h10.2.2.1 y = _
      rw [a2]
      exact a3
    have k113 : ∀ j, k.2.1 113 j = h5.2.1 113 j := fun j => by
      show (hI h10 0 17 (nI 9)).2.1 113 j = _
      rw [rI_ne (by decide), f10.2.2.2.2.2 j (by simp)]
      exact f7.2.2.2.2.2 j (by simp)
    obtain ⟨k', ek, fk', klo, r3, r17, r18, r11⟩ := ref k lk (fun j => by rw [kI 120 (by decide) (by decide) (by decide) (by decide) (by decide)]) (k113 11) (kI 114 (by decide) (by decide) (by decide) (by decide) (by decide)) (kJ 115 (by decide) (by decide) (by decide))
    have ft : FR h6 k' (CTI c) (CTJ c) [17] CF1 := fk.tr (fk'.mono (by intro x hx; unfold CTI; simp at hx ⊢; omega) (by intro x hx; unfold CTJ; simp at hx ⊢; omega) (by simp) (by simp))
    have ksl : ∀ s, s < 4 → KS h6 k' s s := fun s s4 => by
      refine ⟨fun x hx => ?_, fun x hx => ?_, fun x hx => ?_⟩
      · rw [klo.1 _ (by omega) (by omega), kI 114 (by decide) (by decide) (by decide) (by decide) (by decide)]
        rfl
      · rw [klo.2.1 _ (by omega) (by omega), kJ 115 (by decide) (by decide) (by decide)]
        rfl
      · rw [klo.2.2 _ (by omega) (by omega), kJ 116 (by decide) (by decide) (by decide)]
        rfl
    have kI2 : ∀ y, (y < 26 ∨ (41 < y ∧ y < 136)) → y ≠ 0 → y ≠ 113 → y ∉ [4, 7, 8, 9] → y ∉ [42, 43, 44, 45, 46, 47, 48, 49, 50, 51] → y ∉ [114, 121, 122, 124] → k'.2.1 y = h5.2.1 y := fun y h1 h2 h3 h4 h5' h6' => (fk'.I y h6' h2 h3).trans (kI y h1 h2 h3 h4 h5')
    have z4 : k'.2.1 4 = h10.2.1 4 := (fk'.I 4 (by decide) (by decide) (by decide)).trans ((fr_0 (h := h10) (k := 17) (x := nI 9) (cI := []) (cJ := []) (f0 := [17]) (f1 := []) (by decide)).I 4 (by simp) (by decide) (by decide))
    have kcb : KC h5 k' b.c := by
      have := kc_ct ft al p3.2.1 bc
      exact kc_tr (h1 := h6) (kc_R (by decide) (by decide) (by decide)) this
    have rr : ∀ y z, ¬ (y = 42 ∧ z = 6) → k'.2.2.2 y z = h5.2.2.2 y z := fun y z hyz => by rw [ft.2.1, rR_ne hyz]
    have ks0 := ksl 0 (by decide)
    refine ⟨m1, k, k', ?_, ek, inv_ct ct6 al K3 k14 (fun i hi => by rw [show h6.2.2.2 (77 + 12 * i) 2 = h5.2.2.2 (77 + 12 * i) 2 from rR_ne (by omega)]; exact nmk i hi) ft (fun s s1 s4 => ksl s s4) ⟨b, p, pb_k kcb ks0 (fun y y1 y2 => kI2 y (by omega) (by omega) (by omega) (by simp; omega) (by simp; omega) (by simp; omega)) (kI2 126 (by decide) (by decide) (by decide) (by decide) (by decide) (by decide)) (rr 0 11 (by decide)) (rr 52 4 (by decide)) ?_ p10 ((rr 0 12 (by decide)).trans p11) ((rr 0 13 (by decide)).trans p12) i2⟩ ?_ ⟨0, by decide, ?_, r11, fun j => ?_, fun j => ?_⟩ ⟨?_, ?_⟩⟩
    · show f_X11_court h 0 (nI n) = some (m1, hI h10 0 17 (nI 9))
      rw [hd, e10, bd2_some, if_pos rfl]
      simp (disch := first | assumption | omega | decide | ((repeat first | apply lyI | apply lyJ | apply lywI | apply lywJ | apply csI | apply csJ | apply cswI | apply cswJ); assumption)) only [f_X11_refuse, S0, LI, ↓li_m1, nI_add, pk_mul, nn_sub, nn_m1, nn_div, nn_rem, nn_nz, nn_mod, nJ_l, lN_add, lN_mul, nn_tb1, nI_bt, nn_and, nn_or, nn_xor, nn_shr, nn_1shl, nn_31, il_p, il_n, it_p, it_n, ie_p, ie_n, ie_b, ie_b1, ie_m, ie_mm, it_m, it_m0, il_m0, bI_rZ, Option.bind_some, bd2_some, Nat.add_zero, Nat.zero_add, if_true, if_false, Bool.false_eq_true, eq_self, hI_R, hJ_R, ng_t, ng_e]
    · refine plo_k (kp_same (fun j hj => kI2 _ (by omega) (by omega) (by omega) (by simp; omega) (by simp; omega) (by simp; omega))) ?_ (fun x _ hx => ?_) p8
      · have := ks0.1 7 (by decide)
        rwa [Nat.mul_zero] at this
      · have := ks0.1 x hx
        rwa [Nat.mul_zero] at this
    · show k'.2.1 0 17 = k'.2.1 113 3
      rw [r3, fk'.2.2.2.2.1 17 (by decide)]
      exact rI_eq
    · rw [z4]
      exact fl.2.2.2
    · rw [kI2 5 (by decide) (by decide) (by decide) (by decide) (by decide) (by decide), kI2 120 (by decide) (by decide) (by decide) (by decide) (by decide) (by decide)]
      exact q5 j
    · rw [kI2 5 (by decide) (by decide) (by decide) (by decide) (by decide) (by decide)]
      exact qb j
    · rw [r17, z4]
      exact fl.2.1
    · rw [r18, z4]
      exact fl.2.2.1
  · obtain ⟨dv, h10, e10, f10, l10, s10, cc, nc10, y12, y13, y46⟩ := xc
    have wf := dv.1
    let g1 := hR h10 0 11 (some c)
    have lg1 : LAY g1 := lay_Rg (by decide +kernel) l10
    have r10 : h10.2.2.2 = h6.2.2.2 := f10.2.1.trans f76.2.1
    have g12 : g1.2.2.2 0 12 = some p := by
      show (hR h10 0 11 (some c)).2.2.2 0 12 = _
      rw [rR_ne (by decide), r10]
      show (hR h5 42 6 (some c)).2.2.2 0 12 = _
      rw [rR_ne (by decide)]
      exact p11
    let g2 := hI g1 p 7 (nI 0)
    have lg2 : LAY g2 := lg1
    let g3 := hR g2 52 4 (some c)
    have lg3 : LAY g3 := lay_Rg (by decide +kernel) lg2
    let g4 := hI (hI g3 53 4 (nI 0)) 53 5 (nI 0)
    have lg4 : LAY g4 := lg3
    let h11 := hR (hR h10 0 11 (some c)) 52 4 (some c)
    have f4 : FR h11 g4 [14, 20, 53] [] [] [] := by
      have a1 : FR h11 (hI h11 p 7 (nI 0)) [14, 20, 53] [] [] [] := FR.hI (by rcases p10 with rfl | rfl <;> simp) (by omega) (by omega)
      exact (a1.tr (FR.hI (by simp) (by decide) (by decide))).tr (FR.hI (by simp) (by decide) (by decide))
    have s11 : CS h11 c := cs_Rg (by decide) (by decide) (by decide) (cs_Rg (by decide) (by decide) (by decide) s10)
    have s4 := cs_fr f4 s11
    have cc11 : CC h11 c A (cnP A Bv) Q (anS A (cnP A Bv) Q) := cc
    have cc4 := cc_fr f4 (by decide) s11 cc11
    have hf4 : g4.2.2.2 52 4 = some c := rR_eq
    have mn4 : MN g4 53 0 0 M0 := ⟨rfl, rfl, fun k hk => absurd hk (by omega)⟩
    obtain ⟨g5, e5, f5, hr5⟩ := k_rebuild52 s4 cc4 wf lg4 hf4 mn4 (gm_0 (A := A)).1
    have lg5 := f5.lay lg4
    have s5 := cs_fr f5 s4
    have bg : f_X3_begin g2 52 c = some g5 := by
      have t1 : pR g2 3 52 4 c = some g3 := by
        unfold pR
        rw [lay_kd lg2 52 (by decide), if_pos (by decide)]
      have t2 : gR g3 3 52 0 = some 53 := gR_L lg3 (by decide) (by decide) (by decide +kernel)
      have t3 : pI g3 6 53 4 (nI 0) = some (hI g3 53 4 (nI 0)) := pI_L lg3 4 _ (by decide) (by decide)
      have l2' : LAY (hI g3 53 4 (nI 0)) := lg3
      have t4 : gR (hI g3 53 4 (nI 0)) 3 52 0 = some 53 := gR_L l2' (by decide) (by decide) (by decide +kernel)
      have t5 : pI (hI g3 53 4 (nI 0)) 6 53 5 (nI 0) = some g4 := pI_L l2' 5 _ (by decide) (by decide)
      have t6 : ck g4 3 52 = some () := ck_L lg4 (by decide) (by decide)
      unfold f_X3_begin
      rw [show (0 : Int32) = nI 0 from rfl, t1, Option.bind_some, t2, Option.bind_some, t3, Option.bind_some, t4, Option.bind_some, t5, Option.bind_some, t6, Option.bind_some, e5, Option.bind_some]
    let k := hI g5 0 17 (nI 0)
    have lk : LAY k := lg5
    have f11 : FR h11 k [14, 20, 52, 53, 58, 59] [] [17] [] := ((f4.mono (by decide) (by decide) (by decide) (by decide)).tr (f5.mono (by decide) (by decide) (by decide) (by decide))).tr (fr_0 (by decide))
    have g15 : g5.2.1 c 15 = nI (cntB (cnP A Bv) (A 2)) := by
      have : g5.2.1 c = h10.2.1 c := (f5.I c (by simp; omega) (by omega) (by omega)).trans (f4.I c (by simp; omega) (by omega) (by omega))
      rw [this]
      exact cc.1.2.2.2.1
    let h8 := hR (hR h6 0 11 (some c)) 52 4 (some c)
    have f8 : FR h8 h11 (CTI c) (CTJ c) [17] CF1 := fr_R (fr_R (f76'.tr (fr_lc f10)))
    have fk : FR h8 k (CTI c) (CTJ c) [17] CF1 := f8.tr (f11.mono (by intro x hx; unfold CTI; simp at hx ⊢; omega) (by simp) (by simp) (by simp))
    have ct8 : CTr h8 := ctr_R (Or.inr (Or.inr ⟨rfl, rfl⟩)) (ctr_R (Or.inr (Or.inl ⟨rfl, rfl⟩)) ct6)
    have kI : ∀ y, (y < 26 ∨ (41 < y ∧ y < 136)) → y ≠ 0 → y ≠ 113 → y ∉ [4, 7, 8, 9] → y ∉ [42, 43, 44, 45, 46, 47, 48, 49, 50, 51] → y ∉ [14, 20, 52, 53, 58, 59] → k.2.1 y = h5.2.1 y := fun y h1 h2 h3 h4 h5' h6' => by
      have a1 : k.2.1 y = h10.2.1 y := f11.I y h6' h2 h3
      have a2 : h10.2.1 y = (hR h7 42 6 (some c)).2.1 y := f10.I y (fun hm => by
        unfold LCc at hm
        simp at hm h4 h5'
        omega) h2 h3
      have a3 : h7.2.1 y = h5.2.1 y := f7.I y h4 h2 h3
      rw [a1, a2]
      exact a3
    have kJ : ∀ y, (y < 26 ∨ (41 < y ∧ y < 136)) → y ∉ [4, 10] → y ∉ [49, 50, 51] → k.2.2.1 y = h5.2.2.1 y := fun y h1 h4 h5' => by
      have a1 : k.2.2.1 y = h10.2.2.1 y := f11.J y (by simp)
      have a2 : h10.2.2.1 y = (hR h7 42 6 (some c)).2.2.1 y := f10.J y (fun hm => by
        unfold LJc at hm
        simp at hm h4 h5'
        omega)
      have a3 : h7.2.2.1 y = h5.2.2.1 y := f7.J y h4
      rw [a1, a2]
      exact a3
    have k113 : ∀ j, k.2.1 113 j = h5.2.1 113 j := fun j => by
      rw [f11.2.2.2.2.2 j (by simp)]
      show h10.2.1 113 j = _
      rw [f10.2.2.2.2.2 j (by simp)]
      exact f7.2.2.2.2.2 j (by simp)
    obtain ⟨k', ek, fk', klo, cm', sy', nr', ⟨a5, a6, a7⟩, r3, r17, r18, r11⟩ := ref k lk (fun j => by rw [kI 120 (by decide) (by decide) (by decide) (by decide) (by decide) (by decide)]) (k113 11) (kI 114 (by decide) (by decide) (by decide) (by decide) (by decide) (by decide)) (kJ 115 (by decide) (by decide) (by decide))
    have ft : FR h8 k' (CTI c) (CTJ c) [17] CF1 := fk.tr (fk'.mono (by intro x hx; unfold CTI; simp at hx ⊢; omega) (by intro x hx; unfold CTJ; simp at hx ⊢; omega) (by simp) (by simp))
    have f11' : FR h11 k' [14, 20, 52, 53, 58, 59, 114, 121, 122, 124, 126] [115, 116, 123, 127, 128] [17] CF1 := (f11.mono (by decide) (by decide) (by decide) (by decide)).tr (fk'.mono (by decide) (by decide) (by decide) (by decide))
    have ksl : ∀ s, 1 ≤ s → s < 4 → KS h8 k' s s := fun s s1 s4 => by
      refine ⟨fun x hx => ?_, fun x hx => ?_, fun x hx => ?_⟩
      · rw [klo.1 _ (by omega) (by omega), kI 114 (by decide) (by decide) (by decide) (by decide) (by decide) (by decide)]
        rfl
      · rw [klo.2.1 _ (by omega) (by omega), kJ 115 (by decide) (by decide) (by decide)]
        rfl
      · rw [klo.2.2 _ (by omega) (by omega), kJ 116 (by decide) (by decide) (by decide)]
        rfl
    have kg : ∀ y, y ∉ [114, 121, 122, 124, 126] → y ≠ 0 → y ≠ 113 → k'.2.1 y = g5.2.1 y := fun y h1 h2 h3 => (fk'.I y h1 h2 h3).trans ((fr_0 (h := g5) (k := 17) (x := nI 0) (cI := []) (cJ := []) (f0 := [17]) (f1 := []) (by decide)).I y (by simp) h2 h3)
    have kcc : KC h11 k' c := kc_fr f11' (by decide) (by decide) s11.1
    have bcl : BCl h11 (c, A, cnP A Bv, Q, 0, 0, M0, cA A, V) := ⟨s11, al, cc11, nc10⟩
    have z4 : k'.2.1 4 = h10.2.1 4 := f11'.I 4 (by decide) (by decide) (by decide)
    have rr : ∀ y z, k'.2.2.2 y z = h8.2.2.2 y z := fun y z => by rw [ft.2.1]
    have k5' : ∀ y, (y < 26 ∨ (41 < y ∧ y < 136)) → y ≠ 0 → y ≠ 113 → y ∉ [4, 7, 8, 9] → y ∉ [42, 43, 44, 45, 46, 47, 48, 49, 50, 51] → y ∉ [14, 20, 52, 53, 58, 59] → y ∉ [114, 121, 122, 124, 126] → k'.2.1 y = h5.2.1 y := fun y h1 h2 h3 h4 h5' h6' h7' => (fk'.I y h7' h2 h3).trans (kI y h1 h2 h3 h4 h5' h6')
    refine ⟨nI (cntB (cnP A Bv) (A 2)), k, k', ?_, ek, inv_ct ct8 al K3 k14 (fun i hi => ?_) ft ksl ⟨(c, A, cnP A Bv, Q, 0, 0, M0, cA A, V), p, ?_, ?_, bcl_k kcc bcl, ?_, ?_, sy', ⟨cm_0.mpr cm', ⟨a5, a6, fun r i hr => absurd hr (by show ¬ r < 0; omega)⟩, nr'⟩, Or.inl ⟨?_, a7⟩, ⟨⟨wf, wp_dv dv, dv.2.1, rfl, rfl, rfl, rfl⟩, (gm_0 (A := A)).1, (gm_0 (A := A)).2.1, by decide⟩, p10, ?_, ?_⟩ ?_ ⟨0, by decide, ?_, r11, fun j => ?_, fun j => ?_⟩ ⟨?_, ?_⟩⟩
    · show f_X11_court h 0 (nI n) = some (nI (cntB (cnP A Bv) (A 2)), hI g5 0 17 (nI 0))
      have t1 : pR h10 11 0 11 c = some g1 := by
        unfold pR
        rw [lay_kd l10 0 (by decide), if_pos (by decide)]
      have t2 : gR g1 11 0 12 = some p := by rw [gR_D lg1 12 (by decide) (by decide)]; exact g12
      have t3 : pZ g1 8 p 7 (0 : Int32) = some g2 := pZ_L lg1 7 _ (by rcases p10 with rfl | rfl <;> decide) (by decide) (Or.inl rfl)
      have t4 : gR g2 11 0 6 = some 52 := gR_L lg2 (by decide) (by decide) (by decide +kernel)
      have t5 : ck g2 3 52 = some () := ck_L lg2 (by decide) (by decide)
      have t6 : gI g5 1 c 15 = some (nI (cntB (cnP A Bv) (A 2))) := by rw [← g15]; exact (SC g5 c s5).2.2.2.2.2.2.2.2.2.2.2.2.2.2.2.2.2.2.2.1
      rw [hd, e10, bd2_some, if_neg (by decide), t1, Option.bind_some, t2, Option.bind_some, t3, Option.bind_some, t4, Option.bind_some, t5, Option.bind_some, bg, Option.bind_some, t6, Option.bind_some]
      simp (disch := first | assumption | omega | decide | ((repeat first | apply lyI | apply lyJ | apply lywI | apply lywJ | apply csI | apply csJ | apply cswI | apply cswJ); assumption)) only [f_X11_give, S0, LI, ↓li_m1, nI_add, pk_mul, nn_sub, nn_m1, nn_div, nn_rem, nn_nz, nn_mod, nJ_l, lN_add, lN_mul, nn_tb1, nI_bt, nn_and, nn_or, nn_xor, nn_shr, nn_1shl, nn_31, il_p, il_n, it_p, it_n, ie_p, ie_n, ie_b, ie_b1, ie_m, ie_mm, it_m, it_m0, il_m0, bI_rZ, Option.bind_some, bd2_some, Nat.add_zero, Nat.zero_add, if_true, if_false, Bool.false_eq_true, eq_self, hI_R, hJ_R, ng_t, ng_e]
    · show (hR (hR (hR h5 42 6 (some c)) 0 11 (some c)) 52 4 (some c)).2.2.2 (77 + 12 * i) 2 ≠ _
      rw [rR_ne (by omega), rR_ne (by omega), rR_ne (by omega)]
      exact nmk i hi
    · rw [rr]
      show (hR (hR h6 0 11 (some c)) 52 4 (some c)).2.2.2 0 11 = _
      rw [rR_ne (by decide), rR_eq]
    · rw [rr]
      exact rR_eq
    · have e53 := kg 53 (by decide) (by decide) (by decide)
      rw [f5.I 53 (by decide) (by decide) (by decide)] at e53
      refine ⟨by rw [e53]; exact mn4.1, by rw [e53]; exact mn4.2.1, fun r hr => absurd hr (by show ¬ r < 0; omega)⟩
    · exact hr_k (kg 52 (by decide) (by decide) (by decide)) (kg 58 (by decide) (by decide) (by decide)) (kg 59 (by decide) (by decide) (by decide)) hr5
    · have ep : k'.2.1 p = g4.2.1 p := (kg p (by rcases p10 with rfl | rfl <;> decide) (by omega) (by omega)).trans (f5.I p (by rcases p10 with rfl | rfl <;> decide) (by omega) (by omega))
      rw [ep]
      show (hI (hI g3 53 4 (nI 0)) 53 5 (nI 0)).2.1 p 7 = _
      rw [rI_ne (by omega), rI_ne (by omega)]
      exact rI_eq
    · rw [rr]
      show (hR (hR (hR h5 42 6 (some c)) 0 11 (some c)) 52 4 (some c)).2.2.2 0 12 = _
      rw [rR_ne (by decide), rR_ne (by decide), rR_ne (by decide)]
      exact p11
    · rw [rr]
      show (hR (hR (hR h5 42 6 (some c)) 0 11 (some c)) 52 4 (some c)).2.2.2 0 13 = _
      rw [rR_ne (by decide), rR_ne (by decide), rR_ne (by decide)]
      exact p12
    · show k'.2.1 0 17 = k'.2.1 113 3
      rw [r3, fk'.2.2.2.2.1 17 (by decide)]
      exact rI_eq
    · rw [z4]
      exact y46
    · rw [k5' 5 (by decide) (by decide) (by decide) (by decide) (by decide) (by decide) (by decide), k5' 120 (by decide) (by decide) (by decide) (by decide) (by decide) (by decide) (by decide)]
      exact q5 j
    · rw [k5' 5 (by decide) (by decide) (by decide) (by decide) (by decide) (by decide) (by decide)]
      exact qb j
    · rw [r17, z4]
      exact y12
    · rw [r18, z4]
      exact y13
theorem o_court {h : aH} (iv : Inv h) (x : Int32) : IO h (fun h => f_X11_court h 0 x) (fun h => f_X12_court h 113 x) := by
  obtain ⟨t, t9, e6, e11, e5, eb⟩ := iv.2.2.2.2.2.2.2.2.2.1
  have hl := iv.1
  have l0 : LAY (hI h 0 17 (nI 1)) := hl
  rcases neg_or x with hx | ⟨v, v1, rfl⟩
  · refine io_no iv (w := nI 1) ?_ ?_
    · show f_X11_court h 0 x = _
      simp (disch := first | assumption | omega | decide | ((repeat first | apply lyI | apply lyJ | apply lywI | apply lywJ | apply csI | apply csJ | apply cswI | apply cswJ); assumption)) only [f_X11_court, f_X11_below, f_X11_refuse, S0, SX, LI, ↓li_m1, nI_add, pk_mul, nn_sub, nn_m1, nn_div, nn_rem, nn_nz, nn_mod, nJ_l, lN_add, lN_mul, nn_tb1, nI_bt, nn_and, nn_or, nn_xor, nn_shr, nn_1shl, nn_31, il_p, il_n, it_p, it_n, ie_p, ie_n, ie_b, ie_b1, ie_m, ie_mm, it_m, it_m0, il_m0, bI_rZ, Option.bind_some, bd2_some, Nat.add_zero, Nat.zero_add, if_true, if_false, Bool.false_eq_true, eq_self, hI_R, hJ_R, ng_t, ng_e, e6]
    · show f_X12_court (hI h 0 17 (nI 1)) 113 x = _
      simp (disch := first | assumption | omega | decide | ((repeat first | apply lyI | apply lyJ | apply lywI | apply lywJ | apply csI | apply csJ | apply cswI | apply cswJ); assumption)) only [f_X12_court, f_X12_begins, f_X12_refuse, SM, LI, ↓li_m1, nI_add, pk_mul, nn_sub, nn_m1, nn_div, nn_rem, nn_nz, nn_mod, nJ_l, lN_add, lN_mul, nn_tb1, nI_bt, nn_and, nn_or, nn_xor, nn_shr, nn_1shl, nn_31, il_p, il_n, it_p, it_n, ie_p, ie_n, ie_b, ie_b1, ie_m, ie_mm, it_m, it_m0, il_m0, bI_rZ, Option.bind_some, bd2_some, Nat.add_zero, Nat.zero_add, if_true, if_false, Bool.false_eq_true, eq_self, hI_R, hJ_R, ng_t, ng_e]
  rcases Nat.lt_or_ge t v with u | u
  · refine io_no iv (w := nI 1) ?_ ?_
    · show f_X11_court h 0 (nI v) = _
      simp (disch := first | assumption | omega | decide | ((repeat first | apply lyI | apply lyJ | apply lywI | apply lywJ | apply csI | apply csJ | apply cswI | apply cswJ); assumption)) only [f_X11_court, f_X11_below, f_X11_refuse, S0, SX, LI, ↓li_m1, nI_add, pk_mul, nn_sub, nn_m1, nn_div, nn_rem, nn_nz, nn_mod, nJ_l, lN_add, lN_mul, nn_tb1, nI_bt, nn_and, nn_or, nn_xor, nn_shr, nn_1shl, nn_31, il_p, il_n, it_p, it_n, ie_p, ie_n, ie_b, ie_b1, ie_m, ie_mm, it_m, it_m0, il_m0, bI_rZ, Option.bind_some, bd2_some, Nat.add_zero, Nat.zero_add, if_true, if_false, Bool.false_eq_true, eq_self, hI_R, hJ_R, ng_t, ng_e, e6]
    · show f_X12_court (hI h 0 17 (nI 1)) 113 (nI v) = _
      have e11' : (hI h 0 17 (nI 1)).2.1 113 11 = nI t := e11
      simp (disch := first | assumption | omega | decide | ((repeat first | apply lyI | apply lyJ | apply lywI | apply lywJ | apply csI | apply csJ | apply cswI | apply cswJ); assumption)) only [f_X12_court, f_X12_begins, f_X12_refuse, SM, LI, ↓li_m1, nI_add, pk_mul, nn_sub, nn_m1, nn_div, nn_rem, nn_nz, nn_mod, nJ_l, lN_add, lN_mul, nn_tb1, nI_bt, nn_and, nn_or, nn_xor, nn_shr, nn_1shl, nn_31, il_p, il_n, it_p, it_n, ie_p, ie_n, ie_b, ie_b1, ie_m, ie_mm, it_m, it_m0, il_m0, bI_rZ, Option.bind_some, bd2_some, Nat.add_zero, Nat.zero_add, if_true, if_false, Bool.false_eq_true, eq_self, hI_R, hJ_R, ng_t, ng_e, e11']
  exact o_court1 iv t9 e6 u
