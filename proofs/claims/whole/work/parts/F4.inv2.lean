/-! ===== what holds between calls: frames ===== -/
theorem tr_fr {h h' : aH} {cI cJ f0 f1 : List Nat} (hf : FR h h' cI cJ f0 f1) (h1 : 1 ∉ cI) (h2 : 2 ∉ cI) (h3 : 117 ∉ cI) (h4 : 118 ∉ cI) (h5 : 3 ∉ cJ) (h6 : 119 ∉ cJ) (t : TR h) : TR h' := by
  unfold TR
  rw [hf.I 1 h1 (by decide) (by decide), hf.I 2 h2 (by decide) (by decide), hf.I 117 h3 (by decide) (by decide), hf.I 118 h4 (by decide) (by decide), hf.J 3 h5, hf.J 119 h6]
  exact t
theorem fq_fr {h h' : aH} {cI cJ f0 f1 : List Nat} (hf : FR h h' cI cJ f0 f1) (h1 : 0 ∉ cJ) (h2 : 113 ∉ cJ) (t : FQ h) : FQ h' := by
  unfold FQ
  rw [hf.J 0 h1, hf.J 113 h2]
  exact t
theorem fp_fr {h h' : aH} {cI cJ f0 f1 : List Nat} (hf : FR h h' cI cJ f0 f1) (h1 : 15 ∉ f0) (h2 : 37 ∉ f1) (h3 : 38 ∉ f1) (t : FP h) : FP h' := by
  unfold FP
  rw [hf.2.2.2.2.1 15 h1, hf.2.2.2.2.2 37 h2, hf.2.2.2.2.2 38 h3]
  exact t
theorem tp_fr {h h' : aH} {cI cJ f0 f1 : List Nat} (hf : FR h h' cI cJ f0 f1) (h1 : 4 ∉ cI) (h2 : 5 ∉ cI) (h3 : 120 ∉ cI) (h4 : 11 ∉ f1) (t : TP h) : TP h' := by
  unfold TP
  rw [hf.I 4 h1 (by decide) (by decide), hf.I 5 h2 (by decide) (by decide), hf.I 120 h3 (by decide) (by decide), hf.2.2.2.2.2 11 h4]
  exact t
theorem fa_fr {h h' : aH} {cI cJ f0 f1 : List Nat} (hf : FR h h' cI cJ f0 f1) (h1 : 4 ∉ cI) (h2 : 17 ∉ f1) (h3 : 18 ∉ f1) (t : FA h) : FA h' := by
  unfold FA
  rw [hf.I 4 h1 (by decide) (by decide), hf.2.2.2.2.2 17 h2, hf.2.2.2.2.2 18 h3]
  exact t
theorem wd_fr {h h' : aH} {cI cJ f0 f1 : List Nat} (hf : FR h h' cI cJ f0 f1) (h1 : 6 ∉ cJ) (t : WDS h) : WDS h' := fun k hk => by
  rw [hf.J 6 h1]
  exact t k hk
theorem cas_fr {h h' : aH} {cI cJ f0 f1 : List Nat} (hf : FR h h' cI cJ f0 f1) (t : CAs h) : CAs h' := cas_k hf.1 (fun i _ => by rw [hf.2.1]) (fun c hs => cs_fr hf hs) t
theorem hr_k {h h' : aH} {A : Nat → Nat} {P : Nat → Bool} {S : Nat → Nat → Nat → Nat → Nat} {M : Nat → Nat → Nat} {n : Nat} (e1 : h'.2.1 52 = h.2.1 52) (e2 : h'.2.1 58 = h.2.1 58) (e3 : h'.2.1 59 = h.2.1 59) (hr : HR h 52 A P S M n) : HR h' 52 A P S M n := by
  unfold HR
  rw [e1, show 52 + 6 = 58 from rfl, show 52 + 7 = 59 from rfl, e2, e3]
  exact hr
/-- the present is as it was, but for its plan -/
theorem pb_k {h h' : aH} {b : Bn} {p q : Nat} (kc : KC h h' b.c) (ks : KS h h' 0 0) (e : ∀ y, 52 ≤ y → y < 60 → h'.2.1 y = h.2.1 y) (e126 : h'.2.1 126 = h.2.1 126) (r11 : h'.2.2.2 0 11 = h.2.2.2 0 11) (r52 : h'.2.2.2 52 4 = h.2.2.2 52 4) (kp : PLo h' q 0 b.A) (hq : q = 14 ∨ q = 20) (r12 : h'.2.2.2 0 12 = some q) (r13 : h'.2.2.2 0 13 = some (34 - q)) (pb : PB h b p) : PB h' b q := by
  obtain ⟨p1, p2, p3, p4, p5, p6, p7, p8, p9, p10, p11, p12⟩ := pb
  refine ⟨r11.trans p1, r52.trans p2, bcl_k kc p3, mn_k p9.2.1.1 (km_same (fun j hj => e _ (by omega) (by omega))) p4, hr_k (e 52 (by decide) (by decide)) (e 58 (by decide) (by decide)) (e 59 (by decide) (by decide)) p5, ?_, bre_k ks p9 p7, kp, p9, hq, r12, r13⟩
  unfold SY
  rw [e126]
  exact p6
theorem pb_fr {h h' : aH} {b : Bn} {p : Nat} {cI cJ f0 f1 : List Nat} (hf : FR h h' cI cJ f0 f1) (h1 : ∀ x ∈ cI, x < 14 ∨ (41 < x ∧ x < 52) ∨ (59 < x ∧ x < 114) ∨ (114 < x ∧ x < 126) ∨ (126 < x ∧ x < 136)) (h2 : ∀ x ∈ cJ, x < 26 ∨ (41 < x ∧ x < 115) ∨ (116 < x ∧ x < 136)) (pb : PB h b p) : PB h' b p := by
  have hs := pb.2.2.1.1
  have hp := pb.2.2.2.2.2.2.2.2.2.1
  have pl := pb.2.2.2.2.2.2.2.1
  have ks : KS h h' 0 0 := ks_fr hf (fun hm => by have := h1 _ hm; omega) (fun hm => by have := h2 _ hm; omega) (fun hm => by have := h2 _ hm; omega) 0
  refine pb_k (kc_fr hf (fun x hx => by have := h1 x hx; omega) (fun x hx => by have := h2 x hx; omega) hs.1) ks (fun y y1 y2 => hf.I y (fun hm => by have := h1 _ hm; omega) (by omega) (by omega)) (hf.I 126 (fun hm => by have := h1 _ hm; omega) (by decide) (by decide)) (by rw [hf.2.1]) (by rw [hf.2.1]) ?_ hp (by rw [hf.2.1]; exact pb.2.2.2.2.2.2.2.2.2.2.1) (by rw [hf.2.1]; exact pb.2.2.2.2.2.2.2.2.2.2.2) pb
  refine plo_k (kp_same (fun j hj => hf.I _ (fun hm => by have := h1 _ hm; omega) (by omega) (by omega))) ?_ (fun x _ hx => ?_) pl
  · have := ks.1 7 (by decide)
    rwa [Nat.mul_zero] at this
  · have := ks.1 x hx
    rwa [Nat.mul_zero] at this
theorem mks_fr {h h' : aH} {cI cJ f0 f1 : List Nat} (hf : FR h h' cI cJ f0 f1) (h1 : ∀ x ∈ cI, x < 26 ∨ (41 < x ∧ x < 77) ∨ (112 < x ∧ x < 136)) (h2 : ∀ x ∈ cJ, x < 26 ∨ (41 < x ∧ x < 136)) (h3 : ∀ s, 1 ≤ s → s < 4 → KS h h' s s) (h14 : 14 ∉ f0) (h47 : 47 ∉ f1) (t : MKs h) : MKs h' :=
  mks_k (kms_fr hf (fun x hx => by have := h1 x hx; omega) h3 h14 h47) (fun i b mb => kc_fr hf (fun x hx => by have := h1 x hx; omega) h2 mb.2.1.1.1) t
theorem mks_fr0 {h h' : aH} {cI cJ f0 f1 : List Nat} (hf : FR h h' cI cJ f0 f1) (h1 : ∀ x ∈ cI, x < 26 ∨ (41 < x ∧ x < 77) ∨ (114 < x ∧ x < 136)) (h2 : ∀ x ∈ cJ, x < 26 ∨ (41 < x ∧ x < 115) ∨ (116 < x ∧ x < 136)) (h14 : 14 ∉ f0) (h47 : 47 ∉ f1) (t : MKs h) : MKs h' :=
  mks_fr hf (fun x hx => by have := h1 x hx; omega) (fun x hx => by have := h2 x hx; omega) (fun s _ _ => ks_fr hf (fun hm => by have := h1 _ hm; omega) (fun hm => by have := h2 _ hm; omega) (fun hm => by have := h2 _ hm; omega) s) h14 h47 t
/-- the ways in which calls leave what holds -/
def IO (h : aH) (f g : aH → Option (Int32 × aH)) : Prop := ∃ r h1 h2, f h = some (r, h1) ∧ g h1 = some (r, h2) ∧ Inv h2
theorem inv_q {h h' : aH} (iv : Inv h) (hf : FR h h' SCR [] [17] [3]) (st : ST h') : Inv h' := by
  obtain ⟨i1, ⟨b, p, i2⟩, i3, i4, i5, i6, i7, i8, i9, i10, i11, i12⟩ := iv
  exact ⟨hf.lay i1, ⟨b, p, pb_fr hf (by decide) (by decide) i2⟩, mks_fr0 hf (by decide) (by decide) (by decide) (by decide) i3, cas_fr hf i4, tr_fr hf (by decide) (by decide) (by decide) (by decide) (by decide) (by decide) i5, st, fq_fr hf (by decide) (by decide) i7, fp_fr hf (by decide) (by decide) (by decide) i8, sa_fr hf (by decide) (by decide) (by decide) (by decide) i9, tp_fr hf (by decide) (by decide) (by decide) (by decide) i10, fa_fr hf (by decide) (by decide) (by decide) i11, wd_fr hf (by decide) i12⟩
theorem io_q {h : aH} {f g : aH → Option (Int32 × aH)} (iv : Inv h) (q : QO h f g) : IO h f g := by
  obtain ⟨r, h1, h2, e1, e2, fr, st⟩ := q
  exact ⟨r, h1, h2, e1, e2, inv_q iv fr st⟩
theorem io_t {h : aH} {f g : aH → Option (Int32 × aH)} (iv : Inv h) (q : TO h f g) : IO h f g := by
  obtain ⟨r, h1, h2, e1, e2, hf, st, fq⟩ := q
  obtain ⟨i1, ⟨b, p, i2⟩, i3, i4, i5, i6, i7, i8, i9, i10, i11, i12⟩ := iv
  exact ⟨r, h1, h2, e1, e2, hf.lay i1, ⟨b, p, pb_fr hf (by decide) (by decide) i2⟩, mks_fr0 hf (by decide) (by decide) (by decide) (by decide) i3, cas_fr hf i4, tr_fr hf (by decide) (by decide) (by decide) (by decide) (by decide) (by decide) i5, st, fq, fp_fr hf (by decide) (by decide) (by decide) i8, sa_fr hf (by decide) (by decide) (by decide) (by decide) i9, tp_fr hf (by decide) (by decide) (by decide) (by decide) i10, fa_fr hf (by decide) (by decide) (by decide) i11, wd_fr hf (by decide) i12⟩
theorem io_s {h : aH} {f g : aH → Option (Int32 × aH)} (iv : Inv h) (q : SO h f g) : IO h f g := by
  obtain ⟨r, h1, h2, e1, e2, hf, st, fp⟩ := q
  obtain ⟨i1, ⟨b, p, i2⟩, i3, i4, i5, i6, i7, i8, i9, i10, i11, i12⟩ := iv
  exact ⟨r, h1, h2, e1, e2, hf.lay i1, ⟨b, p, pb_fr hf (by decide) (by decide) i2⟩, mks_fr0 hf (by decide) (by decide) (by decide) (by decide) i3, cas_fr hf i4, tr_fr hf (by decide) (by decide) (by decide) (by decide) (by decide) (by decide) i5, st, fq_fr hf (by decide) (by decide) i7, fp, sa_fr hf (by decide) (by decide) (by decide) (by decide) i9, tp_fr hf (by decide) (by decide) (by decide) (by decide) i10, fa_fr hf (by decide) (by decide) (by decide) i11, wd_fr hf (by decide) i12⟩
theorem rR_ne {h : aH} {a k i j : Nat} {x : Option Nat} (hn : ¬ (i = a ∧ j = k)) : (hR h a k x).2.2.2 i j = h.2.2.2 i j := by rw [rR_hR, if_neg hn]
theorem rR_eq {h : aH} {a k : Nat} {x : Option Nat} : (hR h a k x).2.2.2 a k = x := by rw [rR_hR, if_pos ⟨rfl, rfl⟩]
theorem inv_R68 {h : aH} {x : Option Nat} (iv : Inv h) : Inv (hR h 68 4 x) := by
  obtain ⟨i1, ⟨b, p, i2⟩, i3, i4, i5, i6, i7, i8, i9, i10, i11, i12⟩ := iv
  have ks : ∀ s, KS h (hR h 68 4 x) s s := fun s => ⟨fun _ _ => rfl, fun _ _ => rfl, fun _ _ => rfl⟩
  have kc : ∀ c, KC h (hR h 68 4 x) c := fun c => kc_R (by decide) (by decide) (by decide)
  refine ⟨lay_R i1, ⟨b, p, pb_k (kc _) (ks 0) (fun _ _ _ => rfl) rfl (rR_ne (by decide)) (rR_ne (by decide)) i2.2.2.2.2.2.2.2.1 i2.2.2.2.2.2.2.2.2.2.1 ?_ ?_ i2⟩, mks_k ⟨fun i hi => rR_ne (by omega), fun _ _ _ => rfl, fun s _ _ => ks s, rfl, rfl⟩ (fun i b _ => kc b.c) i3, cas_k (h := h) rfl (fun i _ => rR_ne (by omega)) (fun c => (kc c).2.2) i4, i5, i6, i7, i8, i9, i10, i11, i12⟩
  · rw [rR_ne (by decide)]
    exact i2.2.2.2.2.2.2.2.2.2.2.1
  · rw [rR_ne (by decide)]
    exact i2.2.2.2.2.2.2.2.2.2.2.2
theorem io_i {h : aH} {f g : aH → Option (Int32 × aH)} (iv : Inv h) (q : SI h f g) : IO h f g := by
  obtain ⟨r, h1, h2, x, e1, e2, hf, st, sa⟩ := q
  obtain ⟨i1, ⟨b, p, i2⟩, i3, i4, i5, i6, i7, i8, i9, i10, i11, i12⟩ := inv_R68 (x := x) iv
  exact ⟨r, h1, h2, e1, e2, hf.lay i1, ⟨b, p, pb_fr hf (by decide) (by decide) i2⟩, mks_fr0 hf (by decide) (by decide) (by decide) (by decide) i3, cas_fr hf i4, tr_fr hf (by decide) (by decide) (by decide) (by decide) (by decide) (by decide) i5, st, fq_fr hf (by decide) (by decide) i7, fp_fr hf (by decide) (by decide) (by decide) i8, sa, tp_fr hf (by decide) (by decide) (by decide) (by decide) i10, fa_fr hf (by decide) (by decide) (by decide) i11, wd_fr hf (by decide) i12⟩
theorem io_h {h : aH} {f g : aH → Option (Int32 × aH)} (iv : ∀ b p, PB h b p → HO h b.c b.A b.P b.Q (anS b.A b.P b.Q) f g) (i : Inv h) : IO h f g := by
  obtain ⟨i1, ⟨b, p, i2⟩, i3, i4, i5, i6, i7, i8, i9, i10, i11, i12⟩ := i
  obtain ⟨r, h1, h2, e1, e2, hf, st, r1, r2, n, d, M, ko, ro, di, d9⟩ := iv b p i2
  obtain ⟨p1, p2, p3, p4, p5, p6, p7, p8, p9, p10, p11, p12⟩ := i2
  have ks : ∀ s, 1 ≤ s → s < 4 → KS h h2 s s := fun s s1 s2 => ⟨fun x hx => r1 _ (by omega) (by omega), fun x _ => by rw [hf.J 115 (by decide)], fun x _ => by rw [hf.J 116 (by decide)]⟩
  have kc : KC h h2 b.c := kc_fr hf (by decide) (by decide) p3.1.1
  refine ⟨r, h1, h2, e1, e2, hf.lay i1, ⟨(b.c, b.A, b.P, b.Q, n, d, M, b.C, b.V), p, ?_⟩, mks_fr hf (by decide) (by decide) ks (by decide) (by decide) i3, cas_fr hf i4, tr_fr hf (by decide) (by decide) (by decide) (by decide) (by decide) (by decide) i5, st, fq_fr hf (by decide) (by decide) i7, fp_fr hf (by decide) (by decide) (by decide) i8, sa_fr hf (by decide) (by decide) (by decide) (by decide) i9, tp_fr hf (by decide) (by decide) (by decide) (by decide) i10, fa_fr hf (by decide) (by decide) (by decide) i11, wd_fr hf (by decide) i12⟩
  obtain ⟨k1, k2, k3, k4, k5, k6, k7, k8, k9⟩ := ko
  obtain ⟨o1, o2, o3, o4, o5, o6⟩ := ro
  obtain ⟨q1, q2, q3, q4⟩ := bcl_k kc p3
  refine ⟨k9, k5, ⟨q1, q2, q3, q4⟩, k6, k8, o6, ⟨cm_0.mpr o2, mm_0.mpr o4, nr_fr hf (by decide) p7.2.2⟩, ?_, ⟨p9.1, k7, di, d9⟩, p10, by rw [hf.2.1]; exact p11, by rw [hf.2.1]; exact p12⟩
  refine plo_k (kp_same (fun j hj => hf.I _ (by unfold HCI; simp; omega) (by omega) (by omega))) ?_ (fun x x1 x2 => ?_) p8
  · rw [Nat.zero_add]
    exact r2
  · rw [Nat.zero_add]
    exact r1 x (by omega) (by omega)
theorem io_p {h : aH} {f g : aH → Option (Int32 × aH)} (iv : ∀ b p, PB h b p → PI h b.A f g) (i : Inv h) : IO h f g := by
  obtain ⟨i1, ⟨b, p, i2⟩, i3, i4, i5, i6, i7, i8, i9, i10, i11, i12⟩ := i
  obtain ⟨r, h1, h2, q, e1, e2, hq, hf, r1, pl, st, tp, fa⟩ := iv b p i2
  have l2 : LAY (hR (hR h 0 12 (some q)) 0 13 (some (34 - q))) := lay_Rg (by decide +kernel) (lay_Rg (by decide +kernel) i1)
  have kcR : ∀ c, KC h (hR (hR h 0 12 (some q)) 0 13 (some (34 - q))) c := fun c => kc_tr (kc_R (by decide) (by decide) (by decide)) (kc_R (by decide) (by decide) (by decide))
  have kc : ∀ c, CS h c → KC h h2 c := fun c hs => kc_tr (kcR c) (kc_fr hf (by decide) (by decide) hs.1)
  have ks : ∀ s, 1 ≤ s → s < 4 → KS h h2 s s := fun s s1 s2 => ⟨fun x hx => r1 _ (by omega) (by omega) (by omega), fun x _ => by rw [hf.J 115 (by decide)]; rfl, fun x _ => by rw [hf.J 116 (by decide)]; rfl⟩
  have rr : ∀ y k, ¬ (y = 0 ∧ k = 12) → ¬ (y = 0 ∧ k = 13) → h2.2.2.2 y k = h.2.2.2 y k := fun y k y1 y2 => by rw [hf.2.1, rR_ne y2, rR_ne y1]
  have hI' : ∀ y, y ∉ PCI → y ≠ 0 → y ≠ 113 → h2.2.1 y = h.2.1 y := fun y y1 y2 y3 => (hf.I y y1 y2 y3).trans rfl
  obtain ⟨p1, p2, p3, p4, p5, p6, p7, p8, p9, p10, p11, p12⟩ := id i2
  refine ⟨r, h1, h2, e1, e2, hf.lay l2, ⟨b, q, ?_⟩, ?_, ?_, ?_, st, ?_, ?_, ?_, tp, fa, ?_⟩
  · have hs := p3.1
    obtain ⟨⟨c1, c2, c3⟩, ⟨m1', m2', m3'⟩, nr⟩ := p7
    have n12 := p9.2.1.1
    refine ⟨(rr 0 11 (by decide) (by decide)).trans p1, (rr 52 4 (by decide) (by decide)).trans p2, bcl_k (kc _ hs) p3, mn_k n12 (km_same (fun j hj => hI' _ (by unfold PCI; simp; omega) (by omega) (by omega))) p4, hr_k (hI' 52 (by decide) (by decide) (by decide)) (hI' 58 (by decide) (by decide) (by decide)) (hI' 59 (by decide) (by decide) (by decide)) p5, ?_, ⟨⟨fun x hx h5 h6 h7 => ?_, fun w hw => ?_, fun q w hq hw => ?_⟩, ⟨?_, ?_, fun y i hy hi => ?_⟩, ?_⟩, pl, p9, hq, ?_, ?_⟩
    · unfold SY
      rw [hI' 126 (by decide) (by decide) (by decide)]
      exact p6
    · rw [r1 _ (by omega) (by omega) (by omega)]
      exact c1 x hx h5 h6 h7
    · rw [hf.J 115 (by decide)]
      exact c2 w hw
    · rw [hf.J 115 (by decide)]
      exact c3 q w hq hw
    · rw [r1 _ (by omega) (by omega) (by omega)]
      exact m1'
    · rw [r1 _ (by omega) (by omega) (by omega)]
      exact m2'
    · rw [r1 _ (by omega) (by omega) (by omega)]
      exact m3' y i hy hi
    · unfold NRe
      rw [hf.J 116 (by decide)]
      exact nr
    · rw [hf.2.1, rR_ne (by decide), rR_eq]
    · rw [hf.2.1, rR_eq]
  · exact mks_k (h := h) ⟨fun i hi => rr _ _ (by omega) (by omega), fun y y1 y2 => hI' y (by unfold PCI; simp; omega) (by omega) (by omega), ks, (hf.2.2.2.2.1 14 (by decide)).trans rfl, (hf.2.2.2.2.2 47 (by decide)).trans rfl⟩ (fun i b mb => kc _ mb.2.1.1) i3
  · exact cas_k (h := h) hf.1 (fun i _ => rr _ _ (by omega) (by omega)) (fun c hs => (kc c hs).2.2 hs) i4
  · exact tr_fr (h := hR (hR h 0 12 (some q)) 0 13 (some (34 - q))) hf (by decide) (by decide) (by decide) (by decide) (by decide) (by decide) i5
  · exact fq_fr hf (by decide) (by decide) i7
  · exact fp_fr hf (by decide) (by decide) (by decide) i8
  · exact sa_fr hf (by decide) (by decide) (by decide) (by decide) i9
  · exact wd_fr hf (by decide) i12
theorem io_tr {h : aH} (i : Inv h) {r : Int64} {h2 : aH} (hf : FR h h2 [1, 2, 117, 118] [3, 119] [17] [3]) (tr : TR h2) (st : ST h2) : Inv h2 := by
  obtain ⟨i1, ⟨b, p, i2⟩, i3, i4, i5, i6, i7, i8, i9, i10, i11, i12⟩ := i
  exact ⟨hf.lay i1, ⟨b, p, pb_fr hf (by decide) (by decide) i2⟩, mks_fr0 hf (by decide) (by decide) (by decide) (by decide) i3, cas_fr hf i4, tr, st, fq_fr hf (by decide) (by decide) i7, fp_fr hf (by decide) (by decide) (by decide) i8, sa_fr hf (by decide) (by decide) (by decide) (by decide) i9, tp_fr hf (by decide) (by decide) (by decide) (by decide) i10, fa_fr hf (by decide) (by decide) (by decide) i11, wd_fr hf (by decide) i12⟩
