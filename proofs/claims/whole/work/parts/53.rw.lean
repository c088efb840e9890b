/-! ===== write, read, status, top, bottom ===== -/
theorem isTray_in {h : aH} {t : Nat} (ht : t < 4) : f_X12_isTray h (nI t) = some 1 := by
  unfold f_X12_isTray
  rw [if_neg (nI_pos (by omega)), if_neg (show ¬ (4 : Int32) ≤ nI t from nI_ge (a := t) (b := 4) ht (by decide))]
theorem isTray_out {h : aH} {x : Int32} (hx : x < 0 ∨ (4 : Int32) ≤ x) : f_X12_isTray h x = some 0 := by
  unfold f_X12_isTray
  by_cases h0 : x < 0
  · rw [if_pos h0]
  · rw [if_neg h0, if_pos (hx.resolve_left h0)]
/-- the same verdict on a place, told by one number; 0: tray t, place j, of m -/
theorem place_both {h : aH} (hl : LAY h) (ht : TR h) (a b : Int32) :
    (∃ w : Int32, ¬ w = 0 ∧ f_X11_whyNoPlace h 0 a b = some w ∧ (0 < w) ∧ ∀ h', FR h h' [] [] [17] [] → f_X12_wrongPlace h' 113 a b = some w) ∨
    ∃ t so m j : Nat, t < 4 ∧ so < 4 ∧ m ≤ 60 ∧ j < m ∧ a = nI t ∧ b = nI j ∧ h.2.1 1 t = nI so ∧ h.2.1 117 t = nI so ∧ h.2.1 2 t = nI m ∧ h.2.1 118 t = nI m ∧ (∀ j, j < m → h.2.2.1 3 (t * 60 + j) = h.2.2.1 119 (60 * t + j)) ∧ f_X11_whyNoPlace h 0 a b = some 0 ∧ ∀ h', FR h h' [] [] [17] [] → f_X12_wrongPlace h' 113 a b = some 0 := by
  have out : (a < 0 ∨ (4 : Int32) ≤ a) → (∃ w : Int32, ¬ w = 0 ∧ f_X11_whyNoPlace h 0 a b = some w ∧ (0 < w) ∧ ∀ h', FR h h' [] [] [17] [] → f_X12_wrongPlace h' 113 a b = some w) := fun q => by
    refine ⟨1, by decide, ?_, by decide, fun h' hf => ?_⟩
    · unfold f_X11_whyNoPlace
      rw [show f_X11_below h a (4 : Int32) = some 0 from q.elim bel_lt bel_ge, Option.bind_some, if_pos rfl]
    · unfold f_X12_wrongPlace
      rw [isTray_out q, Option.bind_some, if_pos rfl]
  rcases pk_ix a (n := 4) (by decide) with ha | ha | ⟨t, ht4, rfl⟩
  · exact Or.inl (out (Or.inl ha))
  · exact Or.inl (out (Or.inr ha))
  have c1 : f_X11_whyNoPlace h 0 (nI t) b = if h.2.1 1 t = (-1 : Int32) then some 2 else (f_X11_below h b (h.2.1 2 t)).bind fun t6 => if t6 = 0 then some 3 else some 0 := by
    unfold f_X11_whyNoPlace
    rw [show f_X11_below h (nI t) (4 : Int32) = some 1 from bel_in ht4 (by decide), Option.bind_some, if_neg (by decide)]
    simp (decide := true) only [gR_L hl (r := 1), gR_L hl (r := 2), Option.bind_some]
    rw [lI_L hl (by decide) (show t < 4 from ht4), Option.bind_some, lI_L hl (by decide) (show t < 4 from ht4), Option.bind_some]
  have c2 : ∀ h', FR h h' [] [] [17] [] → f_X12_wrongPlace h' 113 (nI t) b = if h.2.1 118 t = (-1 : Int32) then some 2 else if b < 0 then some 3 else if b < h.2.1 118 t then some 0 else some 3 := by
    intro h' hf
    have hl' : LAY h' := by unfold LAY; rw [hf.1, hf.2.1]; exact hl
    unfold f_X12_wrongPlace
    rw [isTray_in ht4, Option.bind_some, if_neg (by decide)]
    simp (decide := true) only [gR_L hl' (r := 118), Option.bind_some]
    rw [lI_L hl' (by decide) (show t < 4 from ht4), Option.bind_some, Option.bind_some, hf.2.2.1 118 (by decide) (by decide) (by decide)]
  rcases ht t ht4 with ⟨e1, e2⟩ | ⟨so, m, hso, hm, e1, e2, e3, e4, e5⟩
  · refine Or.inl ⟨2, by decide, ?_, by decide, fun h' hf => ?_⟩
    · rw [c1, if_pos e1]
    · rw [c2 h' hf, if_pos e2]
  have n1 : ¬ nI so = (-1 : Int32) := fun q => by
    have := congrArg Int32.toInt q
    rw [nI_toInt (by omega)] at this
    exact absurd this (by show ¬ ((so : Int) = -1); omega)
  have n2 : ¬ nI m = (-1 : Int32) := fun q => by
    have := congrArg Int32.toInt q
    rw [nI_toInt (by omega)] at this
    exact absurd this (by show ¬ ((m : Int) = -1); omega)
  rw [e1, if_neg n1, e3] at c1
  rcases pk_ix b (n := m) (by omega) with hb | hb | ⟨j, hj, rfl⟩
  · refine Or.inl ⟨3, by decide, ?_, by decide, fun h' hf => ?_⟩
    · rw [c1, bel_lt hb, Option.bind_some, if_pos rfl]
    · rw [c2 h' hf, e4, if_neg n2, if_pos hb]
  · have hb0 : ¬ b < 0 := Int32.not_lt.mpr (Int32.le_trans (nI_pos' (n := m) (by omega)) hb)
    refine Or.inl ⟨3, by decide, ?_, by decide, fun h' hf => ?_⟩
    · rw [c1, bel_ge hb, Option.bind_some, if_pos rfl]
    · rw [c2 h' hf, e4, if_neg n2, if_neg hb0, if_neg (Int32.not_lt.mpr hb)]
  · refine Or.inr ⟨t, so, m, j, ht4, hso, hm, hj, rfl, rfl, e1, e2, e3, e4, e5, ?_, fun h' hf => ?_⟩
    · rw [c1, bel_in hj (by omega), Option.bind_some, if_neg (by decide)]
    · rw [c2 h' hf, e4, if_neg n2, if_neg (nI_pos (by omega)), if_pos (nI_lt hj (by omega))]
theorem cut_same {h h' : aH} {v : Int64} {x : Int32} : f_X12_cut h' v x = f_X11_cut h v x := by
  unfold f_X12_cut f_X11_cut
  rfl
theorem cut_some {h : aH} {v : Int64} {x : Int32} : ∃ r, f_X11_cut h v x = some r := by
  unfold f_X11_cut
  split
  · exact ⟨_, rfl⟩
  · split
    · exact ⟨_, rfl⟩
    · split <;> exact ⟨_, rfl⟩
theorem st_of (h : aH) (w : Int32) {g : aH} (h1 : g.2.1 0 17 = w) (h2 : g.2.1 113 3 = w) : ST g := by
  unfold ST
  rw [h1, h2]
theorem op_write {h : aH} (hl : LAY h) (ht : TR h) (a b : Int32) (v : Int64) : ∃ r h1 h2, f_X11_write h 0 a b v = some (r, h1) ∧ f_X12_write h1 113 a b v = some (r, h2) ∧ FR h h2 [1, 2, 117, 118] [3, 119] [17] [3] ∧ TR h2 ∧ ST h2 := by
  rcases place_both hl ht a b with ⟨w, hw, q1, -, q2⟩ | ⟨t, so, m, j, ht4, hso, hm, hj, rfl, rfl, e1, e2, e3, e4, e5, q1, q2⟩
  · refine ⟨0, hI h 0 17 w, hI (hI h 0 17 w) 113 3 w, ?_, ?_, (fr_0 (by decide)).tr (fr_1 (by decide)), ht, both_st w⟩
    · unfold f_X11_write
      simp (decide := true) only [ck_L hl, q1, Option.bind_some, if_neg hw, deny_L hl, bd2_some, rZ_0]
    · unfold f_X12_write f_X12_write_j34
      simp (decide := true) only [ck_L (lay_hI hl), q2 _ (fr_0 (k := 17) (x := w) (h := h) (by decide)), Option.bind_some, if_neg hw, is_L (lay_hI hl) hw, bd2_some, rZ_0]
  · obtain ⟨r, hr⟩ := cut_some (h := h) (v := v) (x := nI so)
    have i1 : nI t * (60 : Int32) + nI j = nI (t * 60 + j) := by rw [show (60 : Int32) = nI 60 from rfl, pk_mul, nI_add]
    have i2 : (60 : Int32) * nI t + nI j = nI (60 * t + j) := by rw [show (60 : Int32) = nI 60 from rfl, pk_mul, nI_add]
    let g1 := hI (hJ h 3 (t * 60 + j) r) 0 17 0
    let g2 := hI (hJ g1 119 (60 * t + j) r) 113 3 0
    have hg1 : LAY g1 := hl
    refine ⟨1, g1, g2, ?_, ?_, ?_, ?_, ?_⟩
    · unfold f_X11_write
      simp (decide := true) only [ck_L hl, q1, Option.bind_some, if_true, gR_L hl (r := 3), gR_L hl (r := 1)]
      rw [lI_L hl (by decide) (show t < 4 from ht4), Option.bind_some, e1, hr, Option.bind_some, i1, sJ_L hl r (by decide) (show t * 60 + j < 240 by omega), Option.bind_some]
      simp (decide := true) only [ck_L (lay_hJ hl), grant_L (lay_hJ hl), Option.bind_some, bd2_some, rZ_1]
      rfl
    · have hfr : FR (hJ h 3 (t * 60 + j) r) g1 [] [] [17] [] := fr_0 (by decide)
      have w0 : f_X12_wrongPlace g1 113 (nI t) (nI j) = some 0 := by
        have k := q2 (hI h 0 17 0) (fr_0 (by decide))
        unfold f_X12_wrongPlace at k ⊢
        rw [isTray_in ht4, Option.bind_some, if_neg (by decide)] at k ⊢
        simp (decide := true) only [gR_L hg1 (r := 118), gR_L (lay_hI hl) (r := 118), Option.bind_some] at k ⊢
        rw [lI_L hg1 (by decide) (show t < 4 from ht4)]
        rw [lI_L (lay_hI hl) (by decide) (show t < 4 from ht4)] at k
        exact k
      unfold f_X12_write f_X12_write_j34
      simp (decide := true) only [ck_L hg1, w0, Option.bind_some, if_true, gR_L hg1 (r := 119), gR_L hg1 (r := 117)]
      rw [lI_L hg1 (by decide) (show t < 4 from ht4), Option.bind_some, show g1.2.1 117 t = nI so from e2, cut_same (h := h), hr, Option.bind_some, i2, sJ_L hg1 r (by decide) (show 60 * t + j < 240 by omega), Option.bind_some]
      simp (decide := true) only [ck_L (lay_hJ hg1), is_L0 (lay_hJ hg1), Option.bind_some, bd2_some, rZ_1]
      rfl
    · exact ((FR.hJ (by decide)).tr (fr_0 (by decide))).tr ((FR.hJ (by decide)).tr (fr_1 (by decide)))
    · intro u hu
      have k1 : g2.2.1 1 u = h.2.1 1 u := rfl
      have k2 : g2.2.1 2 u = h.2.1 2 u := rfl
      have k3 : g2.2.1 117 u = h.2.1 117 u := rfl
      have k4 : g2.2.1 118 u = h.2.1 118 u := rfl
      rw [k1, k2, k3, k4]
      refine (ht u hu).imp id (fun ⟨so', m', p1, p2, p3, p4, p5, p6, p7⟩ => ⟨so', m', p1, p2, p3, p4, p5, p6, fun i hi => ?_⟩)
      show va_up (h.2.2.1 3) (t * 60 + j) r (u * 60 + i) = va_up (h.2.2.1 119) (60 * t + j) r (60 * u + i)
      unfold va_up
      by_cases hx : u * 60 + i = t * 60 + j
      · rw [if_pos hx, if_pos (by omega)]
      · rw [if_neg hx, if_neg (by omega)]
        exact p7 i hi
    · exact st_of h 0 rfl rfl
theorem op_read {h : aH} (hl : LAY h) (ht : TR h) (a b : Int32) : ∃ r h1 h2, f_X11_read h 0 a b = some (r, h1) ∧ f_X12_read h1 113 a b = some (r, h2) ∧ FR h h2 [] [] [17] [3] ∧ ST h2 := by
  rcases place_both hl ht a b with ⟨w, hw, q1, qp, q2⟩ | ⟨t, so, m, j, ht4, hso, hm, hj, rfl, rfl, e1, e2, e3, e4, e5, q1, q2⟩
  · refine ⟨-1, hI h 0 17 w, hI (hI h 0 17 w) 113 3 w, ?_, ?_, (fr_0 (by decide)).tr (fr_1 (by decide)), both_st w⟩
    · unfold f_X11_read
      simp (decide := true) only [ck_L hl, q1, Option.bind_some, if_neg hw, refuse_L hl, bd2_some]
      rfl
    · unfold f_X12_read
      simp (decide := true) only [ck_L (lay_hI hl), q2 _ (fr_0 (k := 17) (x := w) (h := h) (by decide)), Option.bind_some, pI_L (lay_hI hl), gI_L (lay_hI (lay_hI hl))]
      rw [show (hI (hI h 0 17 w) 113 3 w).2.1 113 3 = w from rfl, if_neg (Int32.not_le.mpr qp)]
  · have i1 : nI t * (60 : Int32) + nI j = nI (t * 60 + j) := by rw [show (60 : Int32) = nI 60 from rfl, pk_mul, nI_add]
    have i2 : (60 : Int32) * nI t + nI j = nI (60 * t + j) := by rw [show (60 : Int32) = nI 60 from rfl, pk_mul, nI_add]
    refine ⟨h.2.2.1 3 (t * 60 + j), hI h 0 17 0, hI (hI h 0 17 0) 113 3 0, ?_, ?_, (fr_0 (by decide)).tr (fr_1 (by decide)), both_st 0⟩
    · unfold f_X11_read
      simp (decide := true) only [ck_L hl, q1, Option.bind_some, if_true, pI_L hl, gR_L (lay_hI hl) (r := 3)]
      rw [i1, lJ_L (lay_hI hl) (by decide) (show t * 60 + j < 240 by omega), Option.bind_some]
      rfl
    · unfold f_X12_read
      simp (decide := true) only [ck_L (lay_hI hl), q2 _ (fr_0 (k := 17) (x := 0) (h := h) (by decide)), Option.bind_some, pI_L (lay_hI hl), gI_L (lay_hI (lay_hI hl)), gR_L (lay_hI (lay_hI hl)) (r := 119)]
      rw [show (hI (hI h 0 17 0) 113 3 0).2.1 113 3 = 0 from rfl, if_pos (by decide), i2, lJ_L (lay_hI (lay_hI hl)) (by decide) (show 60 * t + j < 240 by omega), Option.bind_some]
      rw [e5 j hj]
      rfl
