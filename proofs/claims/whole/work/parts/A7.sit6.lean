/-! ===== a sitting: it begins ===== -/
theorem rt_68 : ∀ q ∈ RT0, ¬ (q.1 = 68 ∧ q.2.1 = 4) := by decide +kernel
theorem rR_hR {h : aH} {a k i j : Nat} {x : Option Nat} : (hR h a k x).2.2.2 i j = if i = a ∧ j = k then x else h.2.2.2 i j := by
  show up2 h.2.2.2 a k x i j = _
  unfold up2 va_up
  by_cases h1 : i = a <;> by_cases h2 : j = k <;> simp [h1, h2]
theorem lay_R {h : aH} {x : Option Nat} (hl : LAY h) : LAY (hR h 68 4 x) := by
  refine ⟨hl.1, fun q hq => ?_⟩
  show (hR h 68 4 x).2.2.2 q.1 q.2.1 = _
  rw [rR_hR, if_neg (rt_68 q hq)]
  exact hl.2 q hq
theorem cs_R {h : aH} {c : Nat} {x : Option Nat} (hs : CS h c) : CS (hR h 68 4 x) c := by
  obtain ⟨k0, k1, k2, k3, k4, k5, k6⟩ := hs
  refine ⟨k0, k1, ?_, fun k h1 h2 => ?_, ?_, ?_, ?_⟩
  · show (hR h 68 4 x).2.2.2 c 0 = _
    rw [rR_hR, if_neg (by omega)]
    exact k2
  · show (hR h 68 4 x).2.2.2 c k = _
    rw [rR_hR, if_neg (by omega)]
    exact k3 k h1 h2
  · show (hR h 68 4 x).2.2.2 (c + 1) 0 = _
    rw [rR_hR, if_neg (by omega)]
    exact k4
  · show (hR h 68 4 x).2.2.2 (c + 1) 1 = _
    rw [rR_hR, if_neg (by omega)]
    exact k5
  · show (hR h 68 4 x).2.2.2 (c + 1) 2 = _
    rw [rR_hR, if_neg (by omega)]
    exact k6
def M0 : Nat → Nat → Nat := fun _ _ => 0
theorem gm_0 {A : Nat → Nat} : GM A (0, 0, M0) := ⟨⟨by decide, by decide, fun k hk => absurd hk (by omega), fun i j hi => absurd hi (by omega)⟩, ⟨by decide, fun k hk => absurd hk (by omega)⟩, by decide⟩
theorem x_begin {h : aH} {c : Nat} (hs : CS h c) {A : Nat → Nat} {P : Nat → Bool} {Q : Nat → Nat → Bool} {S : Nat → Nat → Nat → Nat → Nat} (hc : CC h c A P Q S) (hw : WF A) (hl : LAY h) : ∃ h', f_X3_begin h 68 c = some h' ∧ FR (hR h 68 4 (some c)) h' L68 [] [] [] ∧ H8 h' c A P Q S (0, 0, M0) := by
  let g := hI (hI (hR h 68 4 (some c)) 69 4 (nI 0)) 69 5 (nI 0)
  have lR : LAY (hR h 68 4 (some c)) := lay_R hl
  have sR : CS (hR h 68 4 (some c)) c := cs_R hs
  have cR : CC (hR h 68 4 (some c)) c A P Q S := hc
  have fg : FR (hR h 68 4 (some c)) g L68 [] [] [] := (FR.hI (by decide) (by decide) (by decide)).tr (FR.hI (by decide) (by decide) (by decide))
  have lg := fg.lay lR
  have sg := cs_fr fg sR
  have cg := cc_fr fg (by decide) sR cR
  have hf : g.2.2.2 68 4 = some c := by
    show (hR h 68 4 (some c)).2.2.2 68 4 = _
    rw [rR_hR, if_pos ⟨rfl, rfl⟩]
  have mg : MN g 69 0 0 M0 := ⟨rfl, rfl, fun k hk => absurd hk (by omega)⟩
  obtain ⟨h', e1, f1, hr⟩ := k_rebuild68 sg cg hw lg hf mg (gm_0 (A := A)).1
  refine ⟨h', ?_, fg.tr (f1.mono (by decide) (by decide) (by decide) (by decide)), cs_fr f1 sg, cc_fr f1 (by decide) sg cg, f1.lay lg, by rw [f1.2.1]; exact hf, ?_, hr⟩
  · have t1 : pR h 3 68 4 c = some (hR h 68 4 (some c)) := by
      unfold pR
      rw [lay_kd hl 68 (by decide), if_pos (by decide)]
    have t2 : gR (hR h 68 4 (some c)) 3 68 0 = some 69 := gR_L lR (by decide) (by decide) (by decide +kernel)
    have t3 : pI (hR h 68 4 (some c)) 6 69 4 (nI 0) = some (hI (hR h 68 4 (some c)) 69 4 (nI 0)) := pI_L lR 4 _ (by decide) (by decide)
    have l2 : LAY (hI (hR h 68 4 (some c)) 69 4 (nI 0)) := lR
    have t4 : gR (hI (hR h 68 4 (some c)) 69 4 (nI 0)) 3 68 0 = some 69 := gR_L l2 (by decide) (by decide) (by decide +kernel)
    have t5 : pI (hI (hR h 68 4 (some c)) 69 4 (nI 0)) 6 69 5 (nI 0) = some (hI (hI (hR h 68 4 (some c)) 69 4 (nI 0)) 69 5 (nI 0)) := pI_L l2 5 _ (by decide) (by decide)
    have t6 : ck (hI (hI (hR h 68 4 (some c)) 69 4 (nI 0)) 69 5 (nI 0)) 3 68 = some () := ck_L lg (by decide) (by decide)
    have e1' : f_X3_rebuild (hI (hI (hR h 68 4 (some c)) 69 4 (nI 0)) 69 5 (nI 0)) 68 = some h' := e1
    unfold f_X3_begin
    rw [show (0 : Int32) = nI 0 from rfl, t1, Option.bind_some, t2, Option.bind_some, t3, Option.bind_some, t4, Option.bind_some, t5, Option.bind_some, t6, Option.bind_some, e1', Option.bind_some]
  · unfold MN
    rw [f1.I 69 (by decide) (by decide) (by decide), f1.I (69 + 1) (by decide) (by decide) (by decide), f1.I (69 + 2) (by decide) (by decide) (by decide), f1.I (69 + 3) (by decide) (by decide) (by decide), f1.I (69 + 4) (by decide) (by decide) (by decide)]
    exact mg
def L66 : List Nat := [66, 67, 68, 69, 70, 71, 72, 73, 74, 75, 76]
theorem h8_66 {h h' : aH} {c : Nat} {A : Nat → Nat} {P : Nat → Bool} {Q : Nat → Nat → Bool} {S : Nat → Nat → Nat → Nat → Nat} {t : MT} (hf : FR h h' [66, 67] [] [] []) (h8 : H8 h c A P Q S t) : H8 h' c A P Q S t := by
  obtain ⟨hs, hc, hl, hr4, hm, hr⟩ := h8
  refine ⟨cs_fr hf hs, cc_fr hf (by decide) hs hc, hf.lay hl, by rw [hf.2.1]; exact hr4, ?_, ?_⟩
  · unfold MN
    rw [hf.I 69 (by decide) (by decide) (by decide), hf.I (69 + 1) (by decide) (by decide) (by decide), hf.I (69 + 2) (by decide) (by decide) (by decide), hf.I (69 + 3) (by decide) (by decide) (by decide), hf.I (69 + 4) (by decide) (by decide) (by decide)]
    exact hm
  · unfold HR
    rw [hf.I 68 (by decide) (by decide) (by decide), hf.I (68 + 6) (by decide) (by decide) (by decide), hf.I (68 + 7) (by decide) (by decide) (by decide)]
    exact hr
theorem x_court14 {h : aH} {c : Nat} (hs : CS h c) {A : Nat → Nat} {P : Nat → Bool} {Q : Nat → Nat → Bool} {S : Nat → Nat → Nat → Nat → Nat} (hc : CC h c A P Q S) (hw : WF A) (hl : LAY h) (hp : cntB P (A 2) ≠ 0) {seed : Nat} (hseed : seed < 65536) {W F G B : Nat → Nat} {ns : Nat} (pc : PC h 14 W F G B ns) (pw : PW A W F G B ns) : ∃ h' t e, f_X10_holdCourt h 66 c 14 (nI seed) = some (nI e, h') ∧ FR (hR h 68 4 (some c)) h' L66 [] [] [] ∧ H8 h' c A P Q S t ∧ GM A t ∧ h'.2.1 66 2 = nI (trN A P seed) ∧ (∀ v, v < A 4 → h'.2.1 67 v = nI (tkN A seed v)) ∧ rcE A P Q S (trN A P seed) (rcS A P Q S (trN A P seed) (tkN A seed) W F G B (0, 0, M0) ns) = (e, t) := by
  obtain ⟨t1, t2⟩ := tr_lt hw hp (seed := seed)
  obtain ⟨h1, e1, f1, h8⟩ := x_begin hs hc hw hl
  obtain ⟨s8, c8, l8, -⟩ := id h8
  obtain ⟨h2, e2, f2, x2, x67⟩ := x_truth s8 c8 hw l8 hp hseed
  have h82 := h8_66 f2 h8
  have f12 : FR (hR h 68 4 (some c)) h2 L66 [] [] [] := (f1.mono (by decide) (by decide) (by decide) (by decide)).tr (f2.mono (by decide) (by decide) (by decide) (by decide))
  have pc2 : PC h2 14 W F G B ns := by
    unfold PC
    rw [f12.I 14 (by decide) (by decide) (by decide), f12.I (14 + 1) (by decide) (by decide) (by decide), f12.I (14 + 2) (by decide) (by decide) (by decide), f12.I (14 + 3) (by decide) (by decide) (by decide), f12.I (14 + 4) (by decide) (by decide) (by decide)]
    exact pc
  obtain ⟨_, e3, h3, t, f3, h83, gm3, hcase⟩ := x_loop14 h82 hw gm_0 rfl x2 x67 t1 t2 (fun v hv => tk_lt hw hv) pc2 pw
  have s66 : gR h 10 66 0 = some 68 := gR_L hl (by decide) (by decide) (by decide +kernel)
  have k68 : ck h 3 68 = some () := ck_L hl (by decide) (by decide)
  have c66 : ck h1 10 66 = some () := ck_L l8 (by decide) (by decide)
  have x2' : h3.2.1 66 2 = nI (trN A P seed) := by rw [f3.I 66 (by decide) (by decide) (by decide)]; exact x2
  have x67' : ∀ v, v < A 4 → h3.2.1 67 v = nI (tkN A seed v) := fun v hv => by rw [f3.I 67 (by decide) (by decide) (by decide)]; exact x67 v hv
  have ff := f12.tr (f3.mono (by decide) (by decide) (by decide) (by decide))
  rcases hcase with ⟨fr, rfl, hrc⟩ | ⟨q, hq, rfl, hrc⟩
  · refine ⟨h3, t, 2, ?_, ff, h83, gm3, x2', x67', by rw [hrc]; rfl⟩
    unfold f_X10_holdCourt
    rw [s66, Option.bind_some, k68, Option.bind_some, e1, Option.bind_some, c66, Option.bind_some, e2, Option.bind_some, show (0 : Int32) = nI 0 from rfl, e3, Option.bind_some]
    rfl
  · have r := x_judge h83 hw gm3 x2' t1 hq
    have c66' : ck h3 10 66 = some () := ck_L h83.2.2.1 (by decide) (by decide)
    refine ⟨h3, t, juN A P Q S (trN A P seed) q t, ?_, ff, h83, gm3, x2', x67', by rw [hrc]; rfl⟩
    unfold f_X10_holdCourt
    rw [s66, Option.bind_some, k68, Option.bind_some, e1, Option.bind_some, c66, Option.bind_some, e2, Option.bind_some, show (0 : Int32) = nI 0 from rfl, e3, Option.bind_some]
    show (ck h3 10 66).bind _ = _
    rw [c66', Option.bind_some, r, Option.bind_some]
theorem x_court20 {h : aH} {c : Nat} (hs : CS h c) {A : Nat → Nat} {P : Nat → Bool} {Q : Nat → Nat → Bool} {S : Nat → Nat → Nat → Nat → Nat} (hc : CC h c A P Q S) (hw : WF A) (hl : LAY h) (hp : cntB P (A 2) ≠ 0) {seed : Nat} (hseed : seed < 65536) {W F G B : Nat → Nat} {ns : Nat} (pc : PC h 20 W F G B ns) (pw : PW A W F G B ns) : ∃ h' t e, f_X10_holdCourt h 66 c 20 (nI seed) = some (nI e, h') ∧ FR (hR h 68 4 (some c)) h' L66 [] [] [] ∧ H8 h' c A P Q S t ∧ GM A t ∧ h'.2.1 66 2 = nI (trN A P seed) ∧ (∀ v, v < A 4 → h'.2.1 67 v = nI (tkN A seed v)) ∧ rcE A P Q S (trN A P seed) (rcS A P Q S (trN A P seed) (tkN A seed) W F G B (0, 0, M0) ns) = (e, t) := by
  obtain ⟨t1, t2⟩ := tr_lt hw hp (seed := seed)
  obtain ⟨h1, e1, f1, h8⟩ := x_begin hs hc hw hl
  obtain ⟨s8, c8, l8, -⟩ := id h8
  obtain ⟨h2, e2, f2, x2, x67⟩ := x_truth s8 c8 hw l8 hp hseed
  have h82 := h8_66 f2 h8
  have f12 : FR (hR h 68 4 (some c)) h2 L66 [] [] [] := (f1.mono (by decide) (by decide) (by decide) (by decide)).tr (f2.mono (by decide) (by decide) (by decide) (by decide))
  have pc2 : PC h2 20 W F G B ns := by
    unfold PC
    rw [f12.I 20 (by decide) (by decide) (by decide), f12.I (20 + 1) (by decide) (by decide) (by decide), f12.I (20 + 2) (by decide) (by decide) (by decide), f12.I (20 + 3) (by decide) (by decide) (by decide), f12.I (20 + 4) (by decide) (by decide) (by decide)]
    exact pc
  obtain ⟨_, e3, h3, t, f3, h83, gm3, hcase⟩ := x_loop20 h82 hw gm_0 rfl x2 x67 t1 t2 (fun v hv => tk_lt hw hv) pc2 pw
  have s66 : gR h 10 66 0 = some 68 := gR_L hl (by decide) (by decide) (by decide +kernel)
  have k68 : ck h 3 68 = some () := ck_L hl (by decide) (by decide)
  have c66 : ck h1 10 66 = some () := ck_L l8 (by decide) (by decide)
  have x2' : h3.2.1 66 2 = nI (trN A P seed) := by rw [f3.I 66 (by decide) (by decide) (by decide)]; exact x2
  have x67' : ∀ v, v < A 4 → h3.2.1 67 v = nI (tkN A seed v) := fun v hv => by rw [f3.I 67 (by decide) (by decide) (by decide)]; exact x67 v hv
  have ff := f12.tr (f3.mono (by decide) (by decide) (by decide) (by decide))
  rcases hcase with ⟨fr, rfl, hrc⟩ | ⟨q, hq, rfl, hrc⟩
  · refine ⟨h3, t, 2, ?_, ff, h83, gm3, x2', x67', by rw [hrc]; rfl⟩
    unfold f_X10_holdCourt
    rw [s66, Option.bind_some, k68, Option.bind_some, e1, Option.bind_some, c66, Option.bind_some, e2, Option.bind_some, show (0 : Int32) = nI 0 from rfl, e3, Option.bind_some]
    rfl
  · have r := x_judge h83 hw gm3 x2' t1 hq
    have c66' : ck h3 10 66 = some () := ck_L h83.2.2.1 (by decide) (by decide)
    refine ⟨h3, t, juN A P Q S (trN A P seed) q t, ?_, ff, h83, gm3, x2', x67', by rw [hrc]; rfl⟩
    unfold f_X10_holdCourt
    rw [s66, Option.bind_some, k68, Option.bind_some, e1, Option.bind_some, c66, Option.bind_some, e2, Option.bind_some, show (0 : Int32) = nI 0 from rfl, e3, Option.bind_some]
    show (ck h3 10 66).bind _ = _
    rw [c66', Option.bind_some, r, Option.bind_some]
