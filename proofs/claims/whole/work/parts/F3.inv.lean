/-! ===== what holds between calls ===== -/
abbrev Bn : Type := Nat × (Nat → Nat) × (Nat → Bool) × (Nat → Nat → Bool) × Nat × Nat × (Nat → Nat → Nat) × (Nat → Nat) × (Nat → List Nat)
abbrev Bn.c (b : Bn) : Nat := b.1
abbrev Bn.A (b : Bn) : Nat → Nat := b.2.1
abbrev Bn.P (b : Bn) : Nat → Bool := b.2.2.1
abbrev Bn.Q (b : Bn) : Nat → Nat → Bool := b.2.2.2.1
abbrev Bn.n (b : Bn) : Nat := b.2.2.2.2.1
abbrev Bn.d (b : Bn) : Nat := b.2.2.2.2.2.1
abbrev Bn.M (b : Bn) : Nat → Nat → Nat := b.2.2.2.2.2.2.1
abbrev Bn.C (b : Bn) : Nat → Nat := b.2.2.2.2.2.2.2.1
abbrev Bn.V (b : Bn) : Nat → List Nat := b.2.2.2.2.2.2.2.2
def ALc (c : Nat) : Prop := c = 26 ∨ (136 ≤ c ∧ (c - 136) % 16 = 0)
def MMo (h : aH) (o n d : Nat) (M : Nat → Nat → Nat) : Prop := h.2.1 114 (o + 5) = nI d ∧ h.2.1 114 (o + 6) = nI n ∧ ∀ k i, k < n → i < 4 → h.2.1 114 (o + (100 + 4 * k + i)) = nI (M k i)
def CW (A : Nat → Nat) (P : Nat → Bool) (Q : Nat → Nat → Bool) (C : Nat → Nat) (V : Nat → List Nat) : Prop := WF A ∧ WP A P Q ∧ NV C V ∧ C 0 = A 0 ∧ C 1 = A 1 ∧ C 2 = A 3 ∧ C 3 = A 4
def BW (b : Bn) : Prop := CW b.A b.P b.Q b.C b.V ∧ MW b.A b.n b.d b.M ∧ DI b.n b.d b.M ∧ b.d ≤ 99
/-- the class's case -/
def BCl (h : aH) (b : Bn) : Prop := CS h b.c ∧ ALc b.c ∧ CC h b.c b.A b.P b.Q (anS b.A b.P b.Q) ∧ NCl h b.c b.C b.V
/-- the reference's slot -/
def BRe (h : aH) (s : Nat) (b : Bn) : Prop := CMo h (400 * s) (52 * s) b.A b.P b.Q ∧ MMo h (400 * s) b.n b.d b.M ∧ NRe h (44 * s) b.C b.V
/-- a mark -/
def MK (h : aH) (i : Nat) (b : Bn) : Prop := h.2.2.2 (77 + 12 * i) 2 = some b.c ∧ BCl h b ∧ MN h (84 + 12 * i) b.n b.d b.M ∧ PLo h (78 + 12 * i) (400 * (i + 1)) b.A ∧ BRe h (i + 1) b ∧ BW b
def MKs (h : aH) : Prop := ∃ K, K ≤ 3 ∧ h.2.1 0 14 = nI K ∧ h.2.1 113 47 = nI K ∧ ∀ i, i < K → ∃ b, MK h i b
/-- the present -/
def PB (h : aH) (b : Bn) (p : Nat) : Prop := h.2.2.2 0 11 = some b.c ∧ h.2.2.2 52 4 = some b.c ∧ BCl h b ∧ MN h 53 b.n b.d b.M ∧ HR h 52 b.A b.P (anS b.A b.P b.Q) b.M b.n ∧ SY h b.A b.P (anS b.A b.P b.Q) ∧ BRe h 0 b ∧ PLo h p 0 b.A ∧ BW b ∧ (p = 14 ∨ p = 20) ∧ h.2.2.2 0 12 = some p ∧ h.2.2.2 0 13 = some (34 - p)
/-- the cases that were made -/
def CAs (h : aH) : Prop := (h.1.length - 136) % 16 = 0 ∧ ∀ i, i < 5 → ∀ c, h.2.2.2 11 i = some c → CS h c ∧ ALc c
def Inv (h : aH) : Prop := LAY h ∧ (∃ b p, PB h b p) ∧ MKs h ∧ CAs h ∧ TR h ∧ ST h ∧ FQ h ∧ FP h ∧ SA h ∧ TP h ∧ FA h ∧ WDS h
theorem mm_0 {h : aH} {n d : Nat} {M : Nat → Nat → Nat} : MMo h (400 * 0) n d M ↔ MM h n d M := by
  unfold MMo MM
  simp only [Nat.mul_zero, Nat.zero_add]
theorem cm_0 {h : aH} {A : Nat → Nat} {P : Nat → Bool} {Q : Nat → Nat → Bool} : CMo h (400 * 0) (52 * 0) A P Q ↔ CM h A P Q := Iff.rfl
theorem nr_0 {h : aH} {C : Nat → Nat} {V : Nat → List Nat} : NRe h (44 * 0) C V ↔ NRe h 0 C V := Iff.rfl
theorem pb_ko {h : aH} (hl : LAY h) {b : Bn} {p : Nat} (pb : PB h b p) : KO h b.c b.A b.P b.Q (anS b.A b.P b.Q) b.n b.d b.M := by
  obtain ⟨h1, h2, ⟨h3, -, h4, -⟩, h5, h6, h7, h8, h9, ⟨w1, w2, -⟩, -⟩ := pb
  exact ⟨h3, h4, w1.1, hl, h2, h5, w2, h6, h1⟩
theorem pb_ro {h : aH} (hl : LAY h) {b : Bn} {p : Nat} (pb : PB h b p) : RO h b.A b.P b.Q (anS b.A b.P b.Q) b.n b.d b.M := by
  obtain ⟨h1, h2, ⟨h3, -, h4, -⟩, h5, h6, h7, ⟨h8, h9, -⟩, -, ⟨w1, w2, -⟩, -⟩ := pb
  exact ⟨hl, cm_0.mp h8, w1.1, mm_0.mp h9, w2, h7⟩
/-- a case of the class is as it was -/
def KC (h h' : aH) (c : Nat) : Prop := (∀ j, j < 16 → h'.2.1 (c + j) = h.2.1 (c + j)) ∧ h'.2.2.1 (c + 2) = h.2.2.1 (c + 2) ∧ (CS h c → CS h' c)
theorem kc_tr {h h1 h2 : aH} {c : Nat} (a : KC h h1 c) (b : KC h1 h2 c) : KC h h2 c := ⟨fun j hj => (b.1 j hj).trans (a.1 j hj), b.2.1.trans a.2.1, fun s => b.2.2 (a.2.2 s)⟩
theorem kc_fr {h h' : aH} {c : Nat} {cI cJ f0 f1 : List Nat} (hf : FR h h' cI cJ f0 f1) (h1 : ∀ x ∈ cI, x < 26 ∨ (41 < x ∧ x < 136)) (h2 : ∀ x ∈ cJ, x < 26 ∨ (41 < x ∧ x < 136)) (hc : c = 26 ∨ 136 ≤ c) : KC h h' c :=
  ⟨fun j hj => hf.I (c + j) (fun hm => by have := h1 _ hm; omega) (by omega) (by omega), hf.J (c + 2) (fun hm => by have := h2 _ hm; omega), fun s => cs_fr hf s⟩
theorem kc_R {h : aH} {c a k : Nat} {x : Option Nat} (h1 : a ≠ 26) (h2 : a ≠ 27) (h3 : a < 136) : KC h (hR h a k x) c := ⟨fun _ _ => rfl, rfl, fun s => cs_Rg h1 h2 h3 s⟩
theorem bcl_k {h h' : aH} {b : Bn} (k : KC h h' b.c) (bc : BCl h b) : BCl h' b := by
  obtain ⟨h1, h2, h3, h4⟩ := bc
  have e := k.1
  have e0 := e 0 (by decide)
  rw [Nat.add_zero] at e0
  refine ⟨k.2.2 h1, h2, ?_, ?_⟩
  · unfold CC
    rw [e0, e 5 (by decide), e 6 (by decide), e 7 (by decide), e 8 (by decide), e 9 (by decide), e 10 (by decide), e 11 (by decide), e 12 (by decide), e 13 (by decide), e 14 (by decide), e 15 (by decide)]
    exact h3
  · unfold NCl
    rw [e 1 (by decide), e 3 (by decide), e 4 (by decide), k.2.1]
    exact h4
/-- a slot of the reference is as it was; from slot s to slot t -/
def KS (h h' : aH) (s t : Nat) : Prop := (∀ x, x < 400 → h'.2.1 114 (400 * t + x) = h.2.1 114 (400 * s + x)) ∧ (∀ x, x < 52 → h'.2.2.1 115 (52 * t + x) = h.2.2.1 115 (52 * s + x)) ∧ ∀ x, x < 44 → h'.2.2.1 116 (44 * t + x) = h.2.2.1 116 (44 * s + x)
theorem bre_k {h h' : aH} {s t : Nat} {b : Bn} (k : KS h h' s t) (bw : BW b) (br : BRe h s b) : BRe h' t b := by
  obtain ⟨k1, k2, k3⟩ := k
  obtain ⟨⟨c1, c2, c3⟩, ⟨m1, m2, m3⟩, nr⟩ := br
  have n12 := bw.2.1.1
  have cs := bw.1.2.2.1.1
  refine ⟨⟨fun x hx h5 h6 h7 => ?_, fun w hw => ?_, fun q w hq hw => ?_⟩, ⟨?_, ?_, fun r i hr hi => ?_⟩, fun y j hy hj => ?_⟩
  · rw [k1 x (by omega)]
    exact c1 x hx h5 h6 h7
  · rw [k2 (w / 64) (by omega)]
    exact c2 w hw
  · have := c3 q w hq hw
    rw [Nat.add_assoc, Nat.add_assoc] at this ⊢
    rw [k2 _ (by omega)]
    exact this
  · rw [k1 5 (by decide)]
    exact m1
  · rw [k1 6 (by decide)]
    exact m2
  · rw [k1 _ (by omega)]
    exact m3 r i hr hi
  · have b1 : nbN y + j < 44 := by
      have := cs y hy
      rcases lt4 hy with rfl | rfl | rfl | rfl
      · have e1 : nbN 0 = 0 := rfl
        have e2 : nmN 0 = 4 := rfl
        omega
      · have e1 : nbN 1 = 4 := rfl
        have e2 : nmN 1 = 24 := rfl
        omega
      · have e1 : nbN 2 = 28 := rfl
        have e2 : nmN 2 = 12 := rfl
        omega
      · have e1 : nbN 3 = 40 := rfl
        have e2 : nmN 3 = 4 := rfl
        omega
    rw [k3 _ b1]
    exact nr y j hy hj
/-- plans are as they were, from p to q, from slot s to t -/
def KP2 (h h' : aH) (p q : Nat) : Prop := h'.2.1 q 6 = h.2.1 p 6 ∧ h'.2.1 q 7 = h.2.1 p 7 ∧ ∀ j, j < 4 → ∀ x, x < 30 → h'.2.1 (q + (1 + j)) x = h.2.1 (p + (1 + j)) x
theorem plo_k {h h' : aH} {p q o u : Nat} {A : Nat → Nat} (k : KP2 h h' p q) (e7 : h'.2.1 114 (u + 7) = h.2.1 114 (o + 7)) (er : ∀ x, 148 ≤ x → x < 400 → h'.2.1 114 (u + x) = h.2.1 114 (o + x)) (pl : PLo h p o A) : PLo h' q u A := by
  obtain ⟨k6, k7, kr⟩ := k
  rcases pl with ⟨h1, h2⟩ | ⟨K, N, W, F, G, B, ns, h1, ⟨c1, c2⟩, pw, ⟨r1, r2⟩, pk⟩
  · exact Or.inl ⟨k7.trans h1, e7.trans h2⟩
  · have n60 := pk.2.1
    have n30 := pw.1
    refine Or.inr ⟨K, N, W, F, G, B, ns, k7.trans h1, ⟨k6.trans c1, fun s hs => ?_⟩, pw, ⟨e7.trans r1, fun r i hr hi => ?_⟩, pk⟩
    · obtain ⟨z1, z2, z3, z4⟩ := c2 s hs
      exact ⟨(kr 0 (by decide) s (by omega)).trans z1, (kr 1 (by decide) s (by omega)).trans z2, (kr 2 (by decide) s (by omega)).trans z3, (kr 3 (by decide) s (by omega)).trans z4⟩
    · rw [er _ (by omega) (by omega)]
      exact r2 r i hr hi
def KM2 (h h' : aH) (m q : Nat) : Prop := h'.2.1 q 4 = h.2.1 m 4 ∧ h'.2.1 q 5 = h.2.1 m 5 ∧ ∀ j, j < 4 → ∀ x, x < 12 → h'.2.1 (q + (1 + j)) x = h.2.1 (m + (1 + j)) x
theorem mn_k {h h' : aH} {m q n d : Nat} {M : Nat → Nat → Nat} (n12 : n ≤ 12) (k : KM2 h h' m q) (mn : MN h m n d M) : MN h' q n d M := by
  obtain ⟨k4, k5, kr⟩ := k
  obtain ⟨m1, m2, m3⟩ := mn
  refine ⟨k4.trans m1, k5.trans m2, fun x hx => ?_⟩
  obtain ⟨z1, z2, z3, z4⟩ := m3 x hx
  exact ⟨(kr 0 (by decide) x (by omega)).trans z1, (kr 1 (by decide) x (by omega)).trans z2, (kr 2 (by decide) x (by omega)).trans z3, (kr 3 (by decide) x (by omega)).trans z4⟩
theorem kp_same {h h' : aH} {p : Nat} (e : ∀ j, j < 5 → h'.2.1 (p + j) = h.2.1 (p + j)) : KP2 h h' p p := by
  have e0 := e 0 (by decide)
  rw [Nat.add_zero] at e0
  exact ⟨by rw [e0], by rw [e0], fun j hj x _ => by rw [e (1 + j) (by omega)]⟩
theorem km_same {h h' : aH} {p : Nat} (e : ∀ j, j < 5 → h'.2.1 (p + j) = h.2.1 (p + j)) : KM2 h h' p p := by
  have e0 := e 0 (by decide)
  rw [Nat.add_zero] at e0
  exact ⟨by rw [e0], by rw [e0], fun j hj x _ => by rw [e (1 + j) (by omega)]⟩
theorem mk_k {h h' : aH} {i : Nat} {b : Bn} (kc : KC h h' b.c) (ks : KS h h' (i + 1) (i + 1)) (kr : h'.2.2.2 (77 + 12 * i) 2 = h.2.2.2 (77 + 12 * i) 2) (e : ∀ y, 77 + 12 * i ≤ y → y < 89 + 12 * i → h'.2.1 y = h.2.1 y) (mk : MK h i b) : MK h' i b := by
  obtain ⟨m1, m2, m3, m4, m5, m6⟩ := mk
  exact ⟨kr.trans m1, bcl_k kc m2, mn_k m6.2.1.1 (km_same (fun j hj => e _ (by omega) (by omega))) m3, plo_k (kp_same (fun j hj => e _ (by omega) (by omega))) (ks.1 7 (by decide)) (fun x _ hx => ks.1 x hx) m4, bre_k ks m6 m5, m6⟩
/-- all that marks rest on is as it was -/
def KMs (h h' : aH) : Prop := (∀ i, i < 3 → h'.2.2.2 (77 + 12 * i) 2 = h.2.2.2 (77 + 12 * i) 2) ∧ (∀ y, 77 ≤ y → y < 113 → h'.2.1 y = h.2.1 y) ∧ (∀ s, 1 ≤ s → s < 4 → KS h h' s s) ∧ h'.2.1 0 14 = h.2.1 0 14 ∧ h'.2.1 113 47 = h.2.1 113 47
theorem mks_k {h h' : aH} (km : KMs h h') (kc : ∀ i b, MK h i b → KC h h' b.c) (mk : MKs h) : MKs h' := by
  obtain ⟨K, K3, k1, k2, k3⟩ := mk
  obtain ⟨m1, m2, m3, m4, m5⟩ := km
  refine ⟨K, K3, m4.trans k1, m5.trans k2, fun i hi => ?_⟩
  obtain ⟨b, mb⟩ := k3 i hi
  exact ⟨b, mk_k (kc i b mb) (m3 (i + 1) (by omega) (by omega)) (m1 i (by omega)) (fun y h1 h2 => m2 y (by omega) (by omega)) mb⟩
theorem cas_k {h h' : aH} (e : h'.1 = h.1) (er : ∀ i, i < 5 → h'.2.2.2 11 i = h.2.2.2 11 i) (kc : ∀ c, CS h c → CS h' c) (ca : CAs h) : CAs h' :=
  ⟨by rw [e]; exact ca.1, fun i hi c hc => by
    rw [er i hi] at hc
    exact ⟨kc c (ca.2 i hi c hc).1, (ca.2 i hi c hc).2⟩⟩
theorem cs_26 {h : aH} {c : Nat} (hs : CS h c) : c = 26 ∨ 136 ≤ c := hs.1
/-- a frame within the cells of search and sitting -/
def okI (x : Nat) : Bool := decide (60 ≤ x) && decide (x < 77) || decide (129 ≤ x) && decide (x < 135)
theorem ks_fr {h h' : aH} {cI cJ f0 f1 : List Nat} (hf : FR h h' cI cJ f0 f1) (h1 : 114 ∉ cI) (h2 : 115 ∉ cJ) (h3 : 116 ∉ cJ) (s : Nat) : KS h h' s s :=
  ⟨fun x _ => by rw [hf.I 114 h1 (by decide) (by decide)], fun x _ => by rw [hf.J 115 h2], fun x _ => by rw [hf.J 116 h3]⟩
theorem kms_fr {h h' : aH} {cI cJ f0 f1 : List Nat} (hf : FR h h' cI cJ f0 f1) (hI : ∀ x ∈ cI, x < 77 ∨ 112 < x) (h1 : ∀ s, 1 ≤ s → s < 4 → KS h h' s s) (h14 : 14 ∉ f0) (h47 : 47 ∉ f1) : KMs h h' :=
  ⟨fun i _ => by rw [hf.2.1], fun y y1 y2 => hf.I y (fun hm => by have := hI _ hm; omega) (by omega) (by omega), h1, hf.2.2.2.2.1 14 h14, hf.2.2.2.2.2 47 h47⟩
