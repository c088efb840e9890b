/-! ===== what stays; TRAYS ===== -/
/-- all but these cells' ints, these cells' longs, these int fields of the two objects is as it was -/
def FR (h h' : aH) (cI cJ f0 f1 : List Nat) : Prop := h'.1 = h.1 ∧ h'.2.2.2 = h.2.2.2 ∧ (∀ i, i ∉ cI → i ≠ 0 → i ≠ 113 → h'.2.1 i = h.2.1 i) ∧ (∀ i, i ∉ cJ → h'.2.2.1 i = h.2.2.1 i) ∧ (∀ k, k ∉ f0 → h'.2.1 0 k = h.2.1 0 k) ∧ ∀ k, k ∉ f1 → h'.2.1 113 k = h.2.1 113 k
theorem FR.rf {h : aH} {cI cJ f0 f1 : List Nat} : FR h h cI cJ f0 f1 := ⟨rfl, rfl, fun _ _ _ _ => rfl, fun _ _ => rfl, fun _ _ => rfl, fun _ _ => rfl⟩
theorem FR.tr {h h1 h2 : aH} {cI cJ f0 f1 : List Nat} (a : FR h h1 cI cJ f0 f1) (b : FR h1 h2 cI cJ f0 f1) : FR h h2 cI cJ f0 f1 :=
  ⟨b.1.trans a.1, b.2.1.trans a.2.1, fun i h1 h2 h3 => (b.2.2.1 i h1 h2 h3).trans (a.2.2.1 i h1 h2 h3), fun i h1 => (b.2.2.2.1 i h1).trans (a.2.2.2.1 i h1), fun k h1 => (b.2.2.2.2.1 k h1).trans (a.2.2.2.2.1 k h1), fun k h1 => (b.2.2.2.2.2 k h1).trans (a.2.2.2.2.2 k h1)⟩
theorem FR.wI {h : aH} {a : Nat} {g : Nat → Int32} {cI cJ f0 f1 : List Nat} (ha : a ∈ cI) (h0 : a ≠ 0) (h1 : a ≠ 113) : FR h (wI h a g) cI cJ f0 f1 :=
  ⟨rfl, rfl, fun i hi _ _ => by have hn : ¬ i = a := (fun e => hi (e ▸ ha)); rw [wI_I, if_neg hn], fun _ _ => rfl, fun k _ => by rw [wI_I, if_neg (fun e => h0 e.symm)], fun k _ => by rw [wI_I, if_neg (fun e => h1 e.symm)]⟩
theorem FR.hI {h : aH} {a k : Nat} {x : Int32} {cI cJ f0 f1 : List Nat} (ha : a ∈ cI) (h0 : a ≠ 0) (h1 : a ≠ 113) : FR h (hI h a k x) cI cJ f0 f1 := FR.wI ha h0 h1
theorem FR.wJ {h : aH} {a : Nat} {g : Nat → Int64} {cI cJ f0 f1 : List Nat} (ha : a ∈ cJ) : FR h (wJ h a g) cI cJ f0 f1 :=
  ⟨rfl, rfl, fun _ _ _ _ => rfl, fun i hi => by have hn : ¬ i = a := (fun e => hi (e ▸ ha)); rw [wJ_J, if_neg hn], fun _ _ => rfl, fun _ _ => rfl⟩
theorem FR.hJ {h : aH} {a k : Nat} {x : Int64} {cI cJ f0 f1 : List Nat} (ha : a ∈ cJ) : FR h (hJ h a k x) cI cJ f0 f1 := FR.wJ ha
theorem fr_0 {h : aH} {k : Nat} {x : Int32} {cI cJ f0 f1 : List Nat} (hk : k ∈ f0) : FR h (hI h 0 k x) cI cJ f0 f1 :=
  ⟨rfl, rfl, fun i _ h0 _ => by rw [hI_w, wI_I, if_neg h0], fun _ _ => rfl, fun j hj => by have hn : ¬ ((0 : Nat) = 0 ∧ j = k) := (fun e => hj (e.2 ▸ hk)); rw [rI_hI, if_neg hn], fun j _ => by have hn : ¬ ((113 : Nat) = 0 ∧ j = k) := (fun e => absurd e.1 (by decide)); rw [rI_hI, if_neg hn]⟩
theorem fr_1 {h : aH} {k : Nat} {x : Int32} {cI cJ f0 f1 : List Nat} (hk : k ∈ f1) : FR h (hI h 113 k x) cI cJ f0 f1 :=
  ⟨rfl, rfl, fun i _ _ h0 => by rw [hI_w, wI_I, if_neg h0], fun _ _ => rfl, fun j _ => by have hn : ¬ ((0 : Nat) = 113 ∧ j = k) := (fun e => absurd e.1 (by decide)); rw [rI_hI, if_neg hn], fun j hj => by have hn : ¬ ((113 : Nat) = 113 ∧ j = k) := (fun e => hj (e.2 ▸ hk)); rw [rI_hI, if_neg hn]⟩
def TRs (so1 si1 : Nat → Int32) (pl : Nat → Int64) (so2 ma : Nat → Int32) (tr : Nat → Int64) : Prop := ∀ t, t < 4 → (so1 t = -1 ∧ ma t = -1) ∨ ∃ so m : Nat, so < 4 ∧ m ≤ 60 ∧ so1 t = nI so ∧ so2 t = nI so ∧ si1 t = nI m ∧ ma t = nI m ∧ ∀ j, j < m → pl (t * 60 + j) = tr (60 * t + j)
def TR (h : aH) : Prop := TRs (h.2.1 1) (h.2.1 2) (h.2.2.1 3) (h.2.1 117) (h.2.1 118) (h.2.2.1 119)
def ST (h : aH) : Prop := h.2.1 0 17 = h.2.1 113 3
/-- both sides refuse with w -/
theorem both_st {h : aH} (w : Int32) : ST (hI (hI h 0 17 w) 113 3 w) := by
  unfold ST
  rw [rI_hI, rI_hI, rI_hI]
  simp
theorem TR_of {h h' : aH} {f0 f1 cI cJ : List Nat} (hf : FR h h' cI cJ f0 f1) (a1 : 1 ∉ cI) (a2 : 2 ∉ cI) (a3 : 3 ∉ cJ) (a4 : 117 ∉ cI) (a5 : 118 ∉ cI) (a6 : 119 ∉ cJ) (ht : TR h) : TR h' := by
  unfold TR
  rw [hf.2.2.1 1 a1 (by decide) (by decide), hf.2.2.1 2 a2 (by decide) (by decide), hf.2.2.2.1 3 a3, hf.2.2.1 117 a4 (by decide) (by decide), hf.2.2.1 118 a5 (by decide) (by decide), hf.2.2.2.1 119 a6]
  exact ht
/-- tray() of the reference fills the first places -/
theorem tray_fill {h : aH} (hl : LAY h) {t m : Nat} (ht : t < 4) (hm : m ≤ 60) : f_X12_tray_l49 113 (nI t) (nI m) (0 : Int32) h = some (wJ h 119 (fillF (h.2.2.1 119) (60 * t) (60 * t + m) 0)) := by
  unfold f_X12_tray_l49
  have := forL (body := fun q : Int32 × aH => f_X12_tray_b49 113 (nI t) (nI m) q.1 q.2) (fun i => (nI i, wJ h 119 (fillF (h.2.2.1 119) (60 * t) (60 * t + i) 0))) (e := wJ h 119 (fillF (h.2.2.1 119) (60 * t) (60 * t + m) 0)) m wN 0 (by rw [wN_e]; omega) (fun j j1 j2 => ?_) ?_
  · rw [show wJ h 119 (fillF (h.2.2.1 119) (60 * t) (60 * t + 0) 0) = h by rw [Nat.add_zero, fillF_0, wJ_self]] at this
    exact this
  · show f_X12_tray_b49 113 (nI t) (nI m) (nI j) _ = _
    unfold f_X12_tray_b49
    have e : ((60 : Int32) * nI t) + nI j = nI (60 * t + j) := by
      rw [show (60 : Int32) = nI 60 from rfl, pk_mul, nI_add]
    rw [if_neg (nI_ge (by omega) (by omega)), e]
    simp (decide := true) only [gR_L (lay_wJ hl) (r := 119), Option.bind_some]
    rw [sJ_L (lay_wJ hl) 0 (by decide) (show 60 * t + j < 240 by omega), Option.bind_some, hJ_w, wJ_wJ, wJ_J, if_pos rfl, fillF_s (by omega)]
    rw [show nI j + (1 : Int32) = nI (j + 1) from nI_1 j, Nat.add_assoc]
  · show f_X12_tray_b49 113 (nI t) (nI m) (nI (0 + m)) _ = _
    unfold f_X12_tray_b49
    rw [Nat.zero_add, if_pos (nI_le (Nat.le_refl m) (by omega))]
theorem op_tray {h : aH} (hl : LAY h) (ht : TR h) (a b c : Int32) : ∃ r h1 h2, f_X11_tray h 0 a b c = some (r, h1) ∧ f_X12_tray h1 113 a b c = some (r, h2) ∧ FR h h2 [1, 2, 117, 118] [3, 119] [17] [3] ∧ TR h2 ∧ ST h2 := by
  have bad : f_X11_tray_j25 h 0 = some (0, hI h 0 17 1) := by
    simp (decide := true) only [f_X11_tray_j25, ck_L hl, deny_L hl, Option.bind_some, bd2_some, rZ_0]
  have bad2 : f_X12_tray_j26 (hI h 0 17 1) 113 = some (0, hI (hI h 0 17 1) 113 3 1) := by
    simp (decide := true) only [f_X12_tray_j26, ck_L (lay_hI hl), is_L (lay_hI hl), Option.bind_some, bd2_some, rZ_0]
  have frb : FR h (hI (hI h 0 17 1) 113 3 1) [1, 2, 117, 118] [3, 119] [17] [3] := (fr_0 (by decide)).tr (fr_1 (by decide))
  have fin : ∀ x y, x = some (0, hI h 0 17 1) → y = some ((0 : Int32), hI (hI h 0 17 1) 113 3 1) → f_X11_tray h 0 a b c = x → f_X12_tray (hI h 0 17 1) 113 a b c = y → ∃ r h1 h2, f_X11_tray h 0 a b c = some (r, h1) ∧ f_X12_tray h1 113 a b c = some (r, h2) ∧ FR h h2 [1, 2, 117, 118] [3, 119] [17] [3] ∧ TR h2 ∧ ST h2 :=
    fun x y ex ey h1 h2 => ⟨0, _, _, h1.trans ex, h2.trans ey, frb, ht, both_st 1⟩
  rcases pk_ix a (n := 4) (by decide) with ha | ha | ⟨t, ht4, rfl⟩
  · exact fin _ _ bad bad2 (by unfold f_X11_tray; rw [bel_lt ha, Option.bind_some, if_pos rfl]) (by unfold f_X12_tray f_X12_isTray; rw [if_pos ha, Option.bind_some, if_pos rfl])
  · replace ha : (4 : Int32) ≤ a := ha
    have ha0 : ¬ a < 0 := Int32.not_lt.mpr (Int32.le_trans (by decide) ha)
    exact fin _ _ bad bad2 (by unfold f_X11_tray; rw [bel_ge ha, Option.bind_some, if_pos rfl]) (by unfold f_X12_tray f_X12_isTray; rw [if_neg ha0, if_pos ha, Option.bind_some, if_pos rfl])
  have hb1 : f_X11_below h (nI t) (4 : Int32) = some 1 := bel_in ht4 (by decide)
  have hb2 : ∀ h, f_X12_isTray h (nI t) = some 1 := fun h => by
    unfold f_X12_isTray
    rw [if_neg (nI_pos (by omega)), if_neg (show ¬ (4 : Int32) ≤ nI t from nI_ge ht4 (by decide))]
  have c1 : f_X11_tray h 0 (nI t) b c = (f_X11_below h b (4 : Int32)).bind fun t5 => if t5 = 0 then f_X11_tray_j25 h 0 else (f_X11_below h c (61 : Int32)).bind fun t6 => if t6 = 0 then f_X11_tray_j25 h 0 else (gR h 11 0 0).bind fun t7 => (sI h t7 (nI t) b).bind fun h8 => (gR h8 11 0 1).bind fun t9 => (sI h8 t9 (nI t) c).bind fun h10 => (some (nI t * (60 : Int32))).bind fun t11 => (gR h10 11 0 2).bind fun t12 => (f_J7_fill_bad5a h10 t12 t11 (t11 + (60 : Int32)) (0 : Int64)).bind fun h13 => (ck h13 11 0).bind fun _ => bd2 (f_X11_grant h13 0) fun t14 h15 => (rZ t14).bind fun t16 => some (t16, h15) := by
    unfold f_X11_tray
    rw [hb1, Option.bind_some, if_neg (by decide)]
  have c2 : ∀ h1, f_X12_tray h1 113 (nI t) b c = if b < 0 then f_X12_tray_j26 h1 113 else if (3 : Int32) < b then f_X12_tray_j26 h1 113 else if c < 0 then f_X12_tray_j26 h1 113 else if c ≤ (60 : Int32) then (gR h1 12 113 6).bind fun t5 => (sI h1 t5 (nI t) b).bind fun h6 => (gR h6 12 113 7).bind fun t7 => (sI h6 t7 (nI t) c).bind fun h8 => (f_X12_tray_l49 113 (nI t) c (0 : Int32) h8).bind fun h12 => (ck h12 12 113).bind fun _ => bd2 (f_X12_is h12 113 (0 : Int32)) fun t13 h14 => (rZ t13).bind fun t15 => some (t15, h14) else f_X12_tray_j26 h1 113 := by
    intro h1
    unfold f_X12_tray
    rw [hb2, Option.bind_some, if_neg (by decide)]
  rcases pk_ix b (n := 4) (by decide) with hb | hb | ⟨so, hso, rfl⟩
  · exact fin _ _ bad bad2 (by rw [c1, bel_lt hb, Option.bind_some, if_pos rfl]) (by rw [c2, if_pos hb])
  · replace hb : (4 : Int32) ≤ b := hb
    have hb0 : ¬ b < 0 := Int32.not_lt.mpr (Int32.le_trans (by decide) hb)
    have hb3 : (3 : Int32) < b := Int32.lt_of_lt_of_le (show (3 : Int32) < 4 by decide) hb
    exact fin _ _ bad bad2 (by rw [c1, bel_ge hb, Option.bind_some, if_pos rfl]) (by rw [c2, if_neg hb0, if_pos hb3])
  have n3 : ¬ (3 : Int32) < nI so := nI_nlt (a := 3) (b := so) (by omega) (by decide)
  rcases pk_ix c (n := 61) (by decide) with hc | hc | ⟨m, hm, rfl⟩
  · exact fin _ _ bad bad2 (by rw [c1, show f_X11_below h (nI so) (4 : Int32) = some 1 from bel_in hso (by decide), Option.bind_some, if_neg (by decide), bel_lt hc, Option.bind_some, if_pos rfl]) (by rw [c2, if_neg (nI_pos (by omega)), if_neg n3, if_pos hc])
  · replace hc : (61 : Int32) ≤ c := hc
    have hc0 : ¬ c < 0 := Int32.not_lt.mpr (Int32.le_trans (by decide) hc)
    have hc6 : ¬ c ≤ (60 : Int32) := fun q => absurd (Int32.le_trans hc q) (by decide)
    exact fin _ _ bad bad2 (by rw [c1, show f_X11_below h (nI so) (4 : Int32) = some 1 from bel_in hso (by decide), Option.bind_some, if_neg (by decide), bel_ge hc, Option.bind_some, if_pos rfl]) (by rw [c2, if_neg (nI_pos (by omega)), if_neg n3, if_neg hc0, if_neg hc6])
  have e1 : nI t * (60 : Int32) = nI (t * 60) := by rw [show (60 : Int32) = nI 60 from rfl, pk_mul]
  have e2 : nI (t * 60) + (60 : Int32) = nI (t * 60 + 60) := by rw [show (60 : Int32) = nI 60 from rfl, nI_add]
  let g1 := hI (hI h 1 t (nI so)) 2 t (nI m)
  let g2 := hI (wJ g1 3 (fillF (g1.2.2.1 3) (t * 60) (t * 60 + 60) 0)) 0 17 0
  let g3 := hI (hI g2 117 t (nI so)) 118 t (nI m)
  let g4 := hI (wJ g3 119 (fillF (g3.2.2.1 119) (60 * t) (60 * t + m) 0)) 113 3 0
  have hg1 : LAY g1 := hl
  have hg2 : LAY g2 := hl
  have hg3 : LAY g3 := hl
  have r1 : f_X11_tray h 0 (nI t) (nI so) (nI m) = some (1, g2) := by
    rw [c1, show f_X11_below h (nI so) (4 : Int32) = some 1 from bel_in hso (by decide), Option.bind_some, if_neg (by decide), show f_X11_below h (nI m) (61 : Int32) = some 1 from bel_in hm (by decide), Option.bind_some, if_neg (by decide)]
    simp (decide := true) only [gR_L hl (r := 1), Option.bind_some]
    rw [sI_L hl (nI so) (by decide) (show t < 4 from ht4), Option.bind_some]
    simp (decide := true) only [gR_L (lay_hI hl) (r := 2), Option.bind_some]
    rw [sI_L (lay_hI hl) (nI m) (by decide) (show t < 4 from ht4), Option.bind_some, e1, e2]
    simp (decide := true) only [gR_L (lay_hI (lay_hI hl)) (r := 3), Option.bind_some]
    rw [fill_J hg1 (by decide) (by omega) (show t * 60 + 60 ≤ 240 by omega) (by decide), Option.bind_some]
    simp (decide := true) only [ck_L (lay_wJ hg1), grant_L (lay_wJ hg1), Option.bind_some, bd2_some, rZ_1]
    rfl
  have r2 : f_X12_tray g2 113 (nI t) (nI so) (nI m) = some (1, g4) := by
    rw [c2, if_neg (nI_pos (by omega)), if_neg n3, if_neg (nI_pos (by omega)), if_pos (show nI m ≤ (60 : Int32) from nI_le (b := 60) (by omega) (by decide))]
    simp (decide := true) only [gR_L hg2 (r := 117), Option.bind_some]
    rw [sI_L hg2 (nI so) (by decide) (show t < 4 from ht4), Option.bind_some]
    simp (decide := true) only [gR_L (lay_hI hg2) (r := 118), Option.bind_some]
    rw [sI_L (lay_hI hg2) (nI m) (by decide) (show t < 4 from ht4), Option.bind_some, tray_fill hg3 ht4 (by omega), Option.bind_some]
    simp (decide := true) only [ck_L (lay_wJ hg3), is_L0 (lay_wJ hg3), Option.bind_some, bd2_some, rZ_1]
    rfl
  refine ⟨1, g2, g4, r1, r2, ?_, ?_, ?_⟩
  · exact (((((FR.hI (by decide) (by decide) (by decide)).tr (FR.hI (by decide) (by decide) (by decide))).tr (FR.wJ (by decide))).tr (fr_0 (by decide))).tr ((FR.hI (by decide) (by decide) (by decide)).tr (FR.hI (by decide) (by decide) (by decide)))).tr ((FR.wJ (by decide)).tr (fr_1 (by decide)))
  · intro u hu
    by_cases hut : u = t
    · subst hut
      refine Or.inr ⟨so, m, hso, by omega, ?_, ?_, ?_, ?_, fun j hj => ?_⟩
      · simp [g4, g3, g2, g1, rI_hI, wJ_I]
      · simp [g4, g3, g2, g1, rI_hI, wJ_I]
      · simp [g4, g3, g2, g1, rI_hI, wJ_I]
      · simp [g4, g3, g2, g1, rI_hI, wJ_I]
      · show fillF (h.2.2.1 3) (u * 60) (u * 60 + 60) 0 (u * 60 + j) = fillF (h.2.2.1 119) (60 * u) (60 * u + m) 0 (60 * u + j)
        unfold fillF
        rw [if_pos (by omega), if_pos (by omega)]
    · have hq := ht u hu
      have k1 : g4.2.1 1 u = h.2.1 1 u := by simp [g4, g3, g2, g1, rI_hI, wJ_I, hut]
      have k2 : g4.2.1 2 u = h.2.1 2 u := by simp [g4, g3, g2, g1, rI_hI, wJ_I, hut]
      have k3 : g4.2.1 117 u = h.2.1 117 u := by simp [g4, g3, g2, g1, rI_hI, wJ_I, hut]
      have k4 : g4.2.1 118 u = h.2.1 118 u := by simp [g4, g3, g2, g1, rI_hI, wJ_I, hut]
      rw [k1, k2, k3, k4]
      refine hq.imp id (fun ⟨so', m', p1, p2, p3, p4, p5, p6, p7⟩ => ⟨so', m', p1, p2, p3, p4, p5, p6, fun j hj => ?_⟩)
      show fillF (h.2.2.1 3) (t * 60) (t * 60 + 60) 0 (u * 60 + j) = fillF (h.2.2.1 119) (60 * t) (60 * t + m) 0 (60 * u + j)
      unfold fillF
      rw [if_neg (by omega), if_neg (by omega)]
      exact p7 j hj
  · simp [ST, g4, g3, g2, g1, rI_hI, wJ_I]
