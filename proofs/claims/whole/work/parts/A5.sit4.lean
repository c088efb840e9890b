/-! ===== a sitting: the class's loop, on ===== -/
theorem rc_s {A : Nat → Nat} {P : Nat → Bool} {Q : Nat → Nat → Bool} {S : Nat → Nat → Nat → Nat → Nat} {tr : Nat} {tk : Nat → Nat} {W F G B : Nat → Nat} {t0 : MT} {s fr : Nat} {t : MT} (h : rcS A P Q S tr tk W F G B t0 s = .inl (fr, t)) : rcS A P Q S tr tk W F G B t0 (s + 1) = if s < fr then .inl (fr, t) else if W s = 25 then .inl (fr, puS S tr tk (F s) (some (G s)) t) else if W s = 26 then .inl (fr, puS S tr tk (F s) (bsO A P S (F s) t) t) else if W s = 27 then .inl (fr, (t.1, t.2.1 + 1, t.2.2)) else if W s = 28 then .inr (F s, t) else .inl (if paB A P Q S (W s - 30) (F s) t = true then fr else B s, t) := by
  simp only [rcS, h]
theorem rc_r {A : Nat → Nat} {P : Nat → Bool} {Q : Nat → Nat → Bool} {S : Nat → Nat → Nat → Nat → Nat} {tr : Nat} {tk : Nat → Nat} {W F G B : Nat → Nat} {t0 : MT} {s : Nat} {x : Nat × MT} (h : rcS A P Q S tr tk W F G B t0 s = .inr x) : ∀ n, rcS A P Q S tr tk W F G B t0 (s + n) = .inr x
  | 0 => h
  | n + 1 => by
    show rcS A P Q S tr tk W F G B t0 (s + n + 1) = _
    simp only [rcS, rc_r h n]
theorem pu_day {S : Nat → Nat → Nat → Nat → Nat} {tr : Nat} {tk : Nat → Nat} {v : Nat} {q : Option Nat} {t : MT} : (puS S tr tk v q t).2.1 = t.2.1 := by
  cases q with
  | none => rfl
  | some q =>
    rw [pu_s]
    split <;> rfl
theorem x_step14 {h : aH} {c : Nat} {A : Nat → Nat} {P : Nat → Bool} {Q : Nat → Nat → Bool} {S : Nat → Nat → Nat → Nat → Nat} {t : MT} (h8 : H8 h c A P Q S t) (hw : WF A) (gm : GM A t) {tr : Nat} {tk : Nat → Nat} (e2 : h.2.1 66 2 = nI tr) (e67 : ∀ v, v < A 4 → h.2.1 67 v = nI (tk v)) (ht : tr < A 2) (hpt : P tr = true) (hk : ∀ v, v < A 4 → tk v < 4) {W F G B : Nat → Nat} {ns s fr : Nat} (pc : PC h 14 W F G B ns) (pw : PW A W F G B ns) (hs : s < ns) (hfr : fr ≤ 30) (hd : t.2.1 < 100) {t0 : MT} (hrc : rcS A P Q S tr tk W F G B t0 s = .inl (fr, t)) : (∃ h' fr' t', f_X10_holdCourt_b20 66 14 (nI fr) (nI s) h = some (.inl (nI fr', nI (s + 1), h')) ∧ rcS A P Q S tr tk W F G B t0 (s + 1) = .inl (fr', t') ∧ fr' ≤ 30 ∧ t'.2.1 ≤ t.2.1 + 1 ∧ FR h h' L68 [] [] [] ∧ H8 h' c A P Q S t' ∧ GM A t') ∨ (∃ q, q < A 3 ∧ f_X10_holdCourt_b20 66 14 (nI fr) (nI s) h = some (.inr (.inl (nI q, h))) ∧ rcS A P Q S tr tk W F G B t0 (s + 1) = .inr (q, t)) := by
  obtain ⟨p6, pr⟩ := pc
  obtain ⟨n30, pw⟩ := pw
  obtain ⟨q1, q2, q3, q4⟩ := pr s hs
  obtain ⟨b0, b1, b2l, b2, b3, b4⟩ := wf_b hw
  have hl := h8.2.2.1
  have nx := rc_s hrc
  have u6 : gI h 8 14 6 = some (nI ns) := (gI_L hl 6 (by decide) (by decide)).trans (congrArg some p6)
  have v1 : gR h 8 14 1 = some 16 := gR_L hl (by decide) (by decide) (by decide +kernel)
  have v0 : gR h 8 14 0 = some 15 := gR_L hl (by decide) (by decide) (by decide +kernel)
  have v2 : gR h 8 14 2 = some 17 := gR_L hl (by decide) (by decide) (by decide +kernel)
  have v3 : gR h 8 14 3 = some 18 := gR_L hl (by decide) (by decide) (by decide +kernel)
  have w1 : lI h 16 (nI s) = some (nI (F s)) := (lI_L hl (by decide) (show s < 30 by omega)).trans (congrArg some q2)
  have w0 : lI h 15 (nI s) = some (nI (W s)) := (lI_L hl (by decide) (show s < 30 by omega)).trans (congrArg some q1)
  have w2 : lI h 17 (nI s) = some (nI (G s)) := (lI_L hl (by decide) (show s < 30 by omega)).trans (congrArg some q3)
  have w3 : lI h 18 (nI s) = some (nI (B s)) := (lI_L hl (by decide) (show s < 30 by omega)).trans (congrArg some q4)
  have c66 : ck h 10 66 = some () := ck_L hl (by decide) (by decide)
  have s66 : gR h 10 66 0 = some 68 := gR_L hl (by decide) (by decide) (by decide +kernel)
  have k68 : ck h 3 68 = some () := ck_L hl (by decide) (by decide)
  have n1 : ¬ nI ns ≤ nI s := nI_ge hs (by omega)
  have s1 : nI s + (1 : Int32) = nI (s + 1) := nI_1 s
  have j174 : ∀ g x, f_X10_holdCourt_j174 g 66 14 x (nI s) = some (.inl (x, nI (s + 1), g)) := fun g x => by
    unfold f_X10_holdCourt_j174
    rw [Option.bind_some, s1]
  by_cases hsf : s < fr
  · refine Or.inl ⟨h, fr, t, ?_, by rw [nx, if_pos hsf], hfr, by omega, FR.rf, h8, gm⟩
    unfold f_X10_holdCourt_b20
    rw [u6, Option.bind_some, if_neg n1, if_neg (show ¬ nI fr ≤ nI s from nI_ge hsf (by omega)), j174]
  rw [if_neg hsf] at nx
  have n2 : nI fr ≤ nI s := nI_le (by omega) (by omega)
  have head : f_X10_holdCourt_b20 66 14 (nI fr) (nI s) h = if nI (W s) = (25 : Int32) then (gR h 8 14 2).bind fun t23 => (lI h t23 (nI s)).bind fun t24 => (ck h 10 66).bind fun _ => (f_X10_put h 66 (nI (F s)) t24).bind fun h25 => f_X10_holdCourt_j174 h25 66 14 (nI fr) (nI s) else if nI (W s) = (26 : Int32) then (gR h 10 66 0).bind fun t19 => (ck h 3 t19).bind fun _ => bd2 (f_X3_bestFor h t19 (nI (F s))) fun t20 h21 => (ck h21 10 66).bind fun _ => (f_X10_put h21 66 (nI (F s)) t20).bind fun h22 => f_X10_holdCourt_j174 h22 66 14 (nI fr) (nI s) else if nI (W s) = (27 : Int32) then (gR h 10 66 0).bind fun t15 => (gR h 3 t15 0).bind fun t16 => (gI h 6 t16 5).bind fun t17 => (pI h 6 t16 5 (t17 + (1 : Int32))).bind fun h18 => f_X10_holdCourt_j174 h18 66 14 (nI fr) (nI s) else if nI (W s) = (28 : Int32) then some (.inr (.inl (nI (F s), h))) else (gR h 8 14 0).bind fun t10 => (lI h t10 (nI s)).bind fun t11 => (ck h 10 66).bind fun _ => (f_X10_passes h 66 t11 (nI (F s))).bind fun t12 => if t12 = 0 then (gR h 8 14 3).bind fun t13 => (lI h t13 (nI s)).bind fun t14 => f_X10_holdCourt_j172 h 66 14 (nI s) t14 else f_X10_holdCourt_j172 h 66 14 (nI s) (nI fr) := by
    unfold f_X10_holdCourt_b20
    rw [u6, Option.bind_some, if_neg n1, if_pos n2, v1, Option.bind_some, w1, Option.bind_some, v0, Option.bind_some, w0, Option.bind_some]
  have ne : ∀ a b : Nat, a < 1000 → b < 1000 → a ≠ b → ¬ nI a = nI b := fun a b h1 h2 h3 e => h3 ((nI_eq (by omega) (by omega)).mp e)
  rcases pw s hs with ⟨z, z1, z2⟩ | ⟨z, z1⟩ | z | ⟨z, z1⟩ | ⟨x, x4, z, z1, z2, z3⟩
  · obtain ⟨h', r, f1, h8', gm'⟩ := x_put h8 hw gm e2 e67 ht hpt hk z1 (some (G s)) (fun y hy => by cases hy; exact z2)
    refine Or.inl ⟨h', fr, _, ?_, by rw [nx, if_pos z], hfr, by rw [pu_day]; omega, f1, h8', gm'⟩
    rw [head, z, if_pos (by decide), v2, Option.bind_some, w2, Option.bind_some, c66, Option.bind_some, r, Option.bind_some, j174]
  · obtain ⟨h1, h', y, r1, r2, l1, f1, h8', gm'⟩ := x_best h8 hw gm e2 e67 ht hpt hk z1
    have c66' : ck h1 10 66 = some () := ck_L l1 (by decide) (by decide)
    refine Or.inl ⟨h', fr, _, ?_, by rw [nx, z, if_neg (by decide), if_pos rfl], hfr, by rw [pu_day]; omega, f1, h8', gm'⟩
    rw [head, z, if_neg (by decide), if_pos (by decide), s66, Option.bind_some, k68, Option.bind_some, r1, bd2_some, c66', Option.bind_some, r2, Option.bind_some, j174]
  · obtain ⟨hs8, hc8, -, hf8, hm8, hr8⟩ := id h8
    have m5 : h.2.1 69 5 = nI t.2.1 := hm8.2.1
    have y1 : gR h 3 68 0 = some 69 := gR_L hl (by decide) (by decide) (by decide +kernel)
    have y2 : gI h 6 69 5 = some (nI t.2.1) := (gI_L hl 5 (by decide) (by decide)).trans (congrArg some m5)
    have y3 : pI h 6 69 5 (nI t.2.1 + (1 : Int32)) = some (hI h 69 5 (nI (t.2.1 + 1))) := by
      rw [show nI t.2.1 + (1 : Int32) = nI (t.2.1 + 1) from nI_1 _]
      exact pI_L hl 5 _ (by decide) (by decide)
    have f1 : FR h (hI h 69 5 (nI (t.2.1 + 1))) L68 [] [] [] := FR.hI (by decide) (by decide) (by decide)
    refine Or.inl ⟨hI h 69 5 (nI (t.2.1 + 1)), fr, (t.1, t.2.1 + 1, t.2.2), ?_, by rw [nx, z, if_neg (by decide), if_neg (by decide), if_pos rfl], hfr, Nat.le_refl _, f1, ⟨hs8, cc_fr f1 (by decide) hs8 hc8, hl, hf8, ⟨hm8.1, rfl, hm8.2.2⟩, hr8⟩, gm_day gm hd⟩
    rw [head, z, if_neg (by decide), if_neg (by decide), if_pos (by decide), s66, Option.bind_some, y1, Option.bind_some, y2, Option.bind_some, y3, Option.bind_some, j174]
  · refine Or.inr ⟨F s, z1, ?_, by rw [nx, z, if_neg (by decide), if_neg (by decide), if_neg (by decide), if_pos rfl]⟩
    rw [head, z, if_neg (by decide), if_neg (by decide), if_neg (by decide), if_pos (by decide)]
  · have r := x_pass h8 hw gm x4 z1 z2
    refine Or.inl ⟨h, if paB A P Q S x (F s) t = true then fr else B s, t, ?_, ?_, ?_, by omega, FR.rf, h8, gm⟩
    · rw [head, z, if_neg (show ¬ nI (30 + x) = (25 : Int32) from ne (30 + x) 25 (by omega) (by omega) (by omega)), if_neg (show ¬ nI (30 + x) = (26 : Int32) from ne (30 + x) 26 (by omega) (by omega) (by omega)), if_neg (show ¬ nI (30 + x) = (27 : Int32) from ne (30 + x) 27 (by omega) (by omega) (by omega)), if_neg (show ¬ nI (30 + x) = (28 : Int32) from ne (30 + x) 28 (by omega) (by omega) (by omega)), v0, Option.bind_some, w0, Option.bind_some, c66, Option.bind_some, z, r, Option.bind_some]
      unfold f_X10_holdCourt_j172
      cases paB A P Q S x (F s) t
      · rw [if_pos (by decide), v3, Option.bind_some, w3, Option.bind_some, j174]
        rfl
      · rw [if_neg (by decide), j174]
        rfl
    · rw [nx, if_neg (by omega), if_neg (by omega), if_neg (by omega), if_neg (by omega), z, show 30 + x - 30 = x by omega]
    · split <;> omega
theorem x_step20 {h : aH} {c : Nat} {A : Nat → Nat} {P : Nat → Bool} {Q : Nat → Nat → Bool} {S : Nat → Nat → Nat → Nat → Nat} {t : MT} (h8 : H8 h c A P Q S t) (hw : WF A) (gm : GM A t) {tr : Nat} {tk : Nat → Nat} (e2 : h.2.1 66 2 = nI tr) (e67 : ∀ v, v < A 4 → h.2.1 67 v = nI (tk v)) (ht : tr < A 2) (hpt : P tr = true) (hk : ∀ v, v < A 4 → tk v < 4) {W F G B : Nat → Nat} {ns s fr : Nat} (pc : PC h 20 W F G B ns) (pw : PW A W F G B ns) (hs : s < ns) (hfr : fr ≤ 30) (hd : t.2.1 < 100) {t0 : MT} (hrc : rcS A P Q S tr tk W F G B t0 s = .inl (fr, t)) : (∃ h' fr' t', f_X10_holdCourt_b20 66 20 (nI fr) (nI s) h = some (.inl (nI fr', nI (s + 1), h')) ∧ rcS A P Q S tr tk W F G B t0 (s + 1) = .inl (fr', t') ∧ fr' ≤ 30 ∧ t'.2.1 ≤ t.2.1 + 1 ∧ FR h h' L68 [] [] [] ∧ H8 h' c A P Q S t' ∧ GM A t') ∨ (∃ q, q < A 3 ∧ f_X10_holdCourt_b20 66 20 (nI fr) (nI s) h = some (.inr (.inl (nI q, h))) ∧ rcS A P Q S tr tk W F G B t0 (s + 1) = .inr (q, t)) := by
  obtain ⟨p6, pr⟩ := pc
  obtain ⟨n30, pw⟩ := pw
  obtain ⟨q1, q2, q3, q4⟩ := pr s hs
  obtain ⟨b0, b1, b2l, b2, b3, b4⟩ := wf_b hw
  have hl := h8.2.2.1
  have nx := rc_s hrc
  have u6 : gI h 8 20 6 = some (nI ns) := (gI_L hl 6 (by decide) (by decide)).trans (congrArg some p6)
  have v1 : gR h 8 20 1 = some 22 := gR_L hl (by decide) (by decide) (by decide +kernel)
  have v0 : gR h 8 20 0 = some 21 := gR_L hl (by decide) (by decide) (by decide +kernel)
  have v2 : gR h 8 20 2 = some 23 := gR_L hl (by decide) (by decide) (by decide +kernel)
  have v3 : gR h 8 20 3 = some 24 := gR_L hl (by decide) (by decide) (by decide +kernel)
  have w1 : lI h 22 (nI s) = some (nI (F s)) := (lI_L hl (by decide) (show s < 30 by omega)).trans (congrArg some q2)
  have w0 : lI h 21 (nI s) = some (nI (W s)) := (lI_L hl (by decide) (show s < 30 by omega)).trans (congrArg some q1)
  have w2 : lI h 23 (nI s) = some (nI (G s)) := (lI_L hl (by decide) (show s < 30 by omega)).trans (congrArg some q3)
  have w3 : lI h 24 (nI s) = some (nI (B s)) := (lI_L hl (by decide) (show s < 30 by omega)).trans (congrArg some q4)
  have c66 : ck h 10 66 = some () := ck_L hl (by decide) (by decide)
  have s66 : gR h 10 66 0 = some 68 := gR_L hl (by decide) (by decide) (by decide +kernel)
  have k68 : ck h 3 68 = some () := ck_L hl (by decide) (by decide)
  have n1 : ¬ nI ns ≤ nI s := nI_ge hs (by omega)
  have s1 : nI s + (1 : Int32) = nI (s + 1) := nI_1 s
  have j174 : ∀ g x, f_X10_holdCourt_j174 g 66 20 x (nI s) = some (.inl (x, nI (s + 1), g)) := fun g x => by
    unfold f_X10_holdCourt_j174
    rw [Option.bind_some, s1]
  by_cases hsf : s < fr
  · refine Or.inl ⟨h, fr, t, ?_, by rw [nx, if_pos hsf], hfr, by omega, FR.rf, h8, gm⟩
    unfold f_X10_holdCourt_b20
    rw [u6, Option.bind_some, if_neg n1, if_neg (show ¬ nI fr ≤ nI s from nI_ge hsf (by omega)), j174]
  rw [if_neg hsf] at nx
  have n2 : nI fr ≤ nI s := nI_le (by omega) (by omega)
  have head : f_X10_holdCourt_b20 66 20 (nI fr) (nI s) h = if nI (W s) = (25 : Int32) then (gR h 8 20 2).bind fun t23 => (lI h t23 (nI s)).bind fun t24 => (ck h 10 66).bind fun _ => (f_X10_put h 66 (nI (F s)) t24).bind fun h25 => f_X10_holdCourt_j174 h25 66 20 (nI fr) (nI s) else if nI (W s) = (26 : Int32) then (gR h 10 66 0).bind fun t19 => (ck h 3 t19).bind fun _ => bd2 (f_X3_bestFor h t19 (nI (F s))) fun t20 h21 => (ck h21 10 66).bind fun _ => (f_X10_put h21 66 (nI (F s)) t20).bind fun h22 => f_X10_holdCourt_j174 h22 66 20 (nI fr) (nI s) else if nI (W s) = (27 : Int32) then (gR h 10 66 0).bind fun t15 => (gR h 3 t15 0).bind fun t16 => (gI h 6 t16 5).bind fun t17 => (pI h 6 t16 5 (t17 + (1 : Int32))).bind fun h18 => f_X10_holdCourt_j174 h18 66 20 (nI fr) (nI s) else if nI (W s) = (28 : Int32) then some (.inr (.inl (nI (F s), h))) else (gR h 8 20 0).bind fun t10 => (lI h t10 (nI s)).bind fun t11 => (ck h 10 66).bind fun _ => (f_X10_passes h 66 t11 (nI (F s))).bind fun t12 => if t12 = 0 then (gR h 8 20 3).bind fun t13 => (lI h t13 (nI s)).bind fun t14 => f_X10_holdCourt_j172 h 66 20 (nI s) t14 else f_X10_holdCourt_j172 h 66 20 (nI s) (nI fr) := by
    unfold f_X10_holdCourt_b20
    rw [u6, Option.bind_some, if_neg n1, if_pos n2, v1, Option.bind_some, w1, Option.bind_some, v0, Option.bind_some, w0, Option.bind_some]
  have ne : ∀ a b : Nat, a < 1000 → b < 1000 → a ≠ b → ¬ nI a = nI b := fun a b h1 h2 h3 e => h3 ((nI_eq (by omega) (by omega)).mp e)
  rcases pw s hs with ⟨z, z1, z2⟩ | ⟨z, z1⟩ | z | ⟨z, z1⟩ | ⟨x, x4, z, z1, z2, z3⟩
  · obtain ⟨h', r, f1, h8', gm'⟩ := x_put h8 hw gm e2 e67 ht hpt hk z1 (some (G s)) (fun y hy => by cases hy; exact z2)
    refine Or.inl ⟨h', fr, _, ?_, by rw [nx, if_pos z], hfr, by rw [pu_day]; omega, f1, h8', gm'⟩
    rw [head, z, if_pos (by decide), v2, Option.bind_some, w2, Option.bind_some, c66, Option.bind_some, r, Option.bind_some, j174]
  · obtain ⟨h1, h', y, r1, r2, l1, f1, h8', gm'⟩ := x_best h8 hw gm e2 e67 ht hpt hk z1
    have c66' : ck h1 10 66 = some () := ck_L l1 (by decide) (by decide)
    refine Or.inl ⟨h', fr, _, ?_, by rw [nx, z, if_neg (by decide), if_pos rfl], hfr, by rw [pu_day]; omega, f1, h8', gm'⟩
    rw [head, z, if_neg (by decide), if_pos (by decide), s66, Option.bind_some, k68, Option.bind_some, r1, bd2_some, c66', Option.bind_some, r2, Option.bind_some, j174]
  · obtain ⟨hs8, hc8, -, hf8, hm8, hr8⟩ := id h8
    have m5 : h.2.1 69 5 = nI t.2.1 := hm8.2.1
    have y1 : gR h 3 68 0 = some 69 := gR_L hl (by decide) (by decide) (by decide +kernel)
    have y2 : gI h 6 69 5 = some (nI t.2.1) := (gI_L hl 5 (by decide) (by decide)).trans (congrArg some m5)
    have y3 : pI h 6 69 5 (nI t.2.1 + (1 : Int32)) = some (hI h 69 5 (nI (t.2.1 + 1))) := by
      rw [show nI t.2.1 + (1 : Int32) = nI (t.2.1 + 1) from nI_1 _]
      exact pI_L hl 5 _ (by decide) (by decide)
    have f1 : FR h (hI h 69 5 (nI (t.2.1 + 1))) L68 [] [] [] := FR.hI (by decide) (by decide) (by decide)
    refine Or.inl ⟨hI h 69 5 (nI (t.2.1 + 1)), fr, (t.1, t.2.1 + 1, t.2.2), ?_, by rw [nx, z, if_neg (by decide), if_neg (by decide), if_pos rfl], hfr, Nat.le_refl _, f1, ⟨hs8, cc_fr f1 (by decide) hs8 hc8, hl, hf8, ⟨hm8.1, rfl, hm8.2.2⟩, hr8⟩, gm_day gm hd⟩
    rw [head, z, if_neg (by decide), if_neg (by decide), if_pos (by decide), s66, Option.bind_some, y1, Option.bind_some, y2, Option.bind_some, y3, Option.bind_some, j174]
  · refine Or.inr ⟨F s, z1, ?_, by rw [nx, z, if_neg (by decide), if_neg (by decide), if_neg (by decide), if_pos rfl]⟩
    rw [head, z, if_neg (by decide), if_neg (by decide), if_neg (by decide), if_pos (by decide)]
  · have r := x_pass h8 hw gm x4 z1 z2
    refine Or.inl ⟨h, if paB A P Q S x (F s) t = true then fr else B s, t, ?_, ?_, ?_, by omega, FR.rf, h8, gm⟩
    · rw [head, z, if_neg (show ¬ nI (30 + x) = (25 : Int32) from ne (30 + x) 25 (by omega) (by omega) (by omega)), if_neg (show ¬ nI (30 + x) = (26 : Int32) from ne (30 + x) 26 (by omega) (by omega) (by omega)), if_neg (show ¬ nI (30 + x) = (27 : Int32) from ne (30 + x) 27 (by omega) (by omega) (by omega)), if_neg (show ¬ nI (30 + x) = (28 : Int32) from ne (30 + x) 28 (by omega) (by omega) (by omega)), v0, Option.bind_some, w0, Option.bind_some, c66, Option.bind_some, z, r, Option.bind_some]
      unfold f_X10_holdCourt_j172
      cases paB A P Q S x (F s) t
      · rw [if_pos (by decide), v3, Option.bind_some, w3, Option.bind_some, j174]
        rfl
      · rw [if_neg (by decide), j174]
        rfl
    · rw [nx, if_neg (by omega), if_neg (by omega), if_neg (by omega), if_neg (by omega), z, show 30 + x - 30 = x by omega]
    · split <;> omega
