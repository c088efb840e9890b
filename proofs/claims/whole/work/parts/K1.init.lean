/-! ===== what holds behind both constructors ===== -/
theorem hB_lay : LAY hB := ⟨⟨[], by rw [hB_sh, List.append_nil]⟩, hB_rf⟩
theorem hB_w : ∀ k, k < 27 → hB.2.2.1 6 k = lN (c5 (kwL k)) := by decide +kernel
theorem sb_0 : (1 : Int32) = nI (cntB (lvB A00 (cnP A00 B00) (anS A00 (cnP A00 B00) Q00) M0 0) (A00 2)) := by decide +kernel
theorem sb_1 : (1 : Int32) = nI (cntB (cnP A00 B00) (A00 2)) := by decide +kernel
theorem sb_2 : (65535 : Int32) = nI (pk4 (myN A00)) := by decide +kernel
theorem sb_3 : (1 : Int32) = nI (if cnP A00 B00 0 = true then wtN A00 0 else 0) := by decide +kernel
theorem sb_4 : (0 : Int32) = nI (qwN A00 Q00 0 (A00 3)) := by decide +kernel
theorem sb_5 : ∀ k, k < 100 → k ≠ 7 → (if k = 2 then (1 : Int32) else if k = 7 then -1 else 0) = nI (A00 k) := by decide +kernel
theorem sb_6 : ∀ w, w < 256 → (if w / 64 = 0 then (1 : Int64) else 0).toBitVec.getLsbD (w % 64) = cnP A00 B00 w := by decide +kernel
theorem sb_7 : ∀ s, s < 4 → cA A00 s = 0 := fun s hs => by rcases lt4 hs with rfl | rfl | rfl | rfl <;> rfl
theorem sb_8 {x : Int32} (h : x = 0) : x.toInt8.toInt32 = x := by
  subst h
  decide +kernel
theorem inv_h0 {h : aH} (hl : LAY h) (hs : h.1 = SH0)
    (r : h.2.2.2 0 11 = some 26 ∧ h.2.2.2 52 4 = some 26 ∧ h.2.2.2 0 12 = some 14 ∧ h.2.2.2 0 13 = some 20)
    (r11 : ∀ i, i < 5 → h.2.2.2 11 i = if i = 0 then some 26 else none)
    (c1 : (h.2.1 26 12 = 0 ∧ h.2.1 26 13 = 0 ∧ h.2.1 26 14 = 1 ∧ h.2.1 26 15 = 1 ∧ h.2.1 26 16 = 0 ∧ h.2.1 26 17 = 0 ∧ h.2.1 26 18 = 65535) ∧ h.2.1 35 0 = 1 ∧ h.2.1 36 0 = 0 ∧ h.2.1 27 3 = 0)
    (h1 : (h.2.1 53 4 = 0 ∧ h.2.1 53 5 = 0) ∧ (h.2.1 52 5 = 1 ∧ h.2.1 52 6 = 0 ∧ h.2.1 58 0 = 65535 ∧ h.2.1 59 0 = 0) ∧ h.2.1 14 7 = 0)
    (e114 : ∀ k, k < 100 → h.2.1 114 k = if k = 2 then 1 else if k = 7 then -1 else 0)
    (e115 : ∀ k, k < 52 → h.2.2.1 115 k = if k = 0 then 1 else 0)
    (t4 : ∀ t, t < 4 → h.2.1 1 t = -1 ∧ h.2.1 118 t = -1)
    (s1 : h.2.1 0 17 = 0 ∧ h.2.1 113 3 = 0 ∧ h.2.1 0 15 = -1 ∧ h.2.1 113 37 = -1 ∧ h.2.1 0 16 = 0 ∧ h.2.1 113 45 = 0 ∧ h.2.1 0 14 = 0 ∧ h.2.1 113 47 = 0 ∧ h.2.1 4 6 = 0 ∧ h.2.1 113 11 = 0)
    (s2 : h.2.2.1 0 18 = h.2.2.1 113 4 ∧ h.2.2.1 0 19 = h.2.2.1 113 5 ∧ h.2.1 4 12 = h.2.1 113 17 ∧ h.2.1 4 13 = h.2.1 113 18)
    (wd : WDS h) (t5 : ∀ j, h.2.1 5 j = 0) (t120 : ∀ j, h.2.1 120 j = 0) : Inv h := by
  obtain ⟨⟨c12, c13, c14, c15, c16, c17, c18⟩, c35, c36, c27⟩ := c1
  obtain ⟨⟨h53, h53'⟩, ⟨h52, h52', h58, h59⟩, h14⟩ := h1
  obtain ⟨s17, s3, s15, s37, s16, s45, s14, s47, s46, s11⟩ := s1
  have rf := hl.2
  have q : ∀ a k x, (a, k, x) ∈ RT0 → h.2.2.2 a k = some x := fun a k x hm => rf (a, k, x) hm
  have cs : CS h 26 := by
    refine ⟨Or.inl rfl, fun j _ => ?_, q 26 0 27 (by decide +kernel), fun k k1 k12 => ?_, q 27 0 28 (by decide +kernel), q 27 1 29 (by decide +kernel), q 27 2 30 (by decide +kernel)⟩
    · rw [hs]
    · have hm : ∀ k, k < 12 → 1 ≤ k → ((26, k, 26 + (4 + k)) : Nat × Nat × Nat) ∈ RT0 := by decide +kernel
      exact q 26 k (26 + (4 + k)) (hm k k12 k1)
  have cc : CC h 26 A00 (cnP A00 B00) Q00 (anS A00 (cnP A00 B00) Q00) := by
    refine ⟨⟨c12, c13, c14, c15.trans sb_1, c16, c17, c18.trans sb_2⟩, fun f hf => absurd hf (by show ¬ f < 0; omega), fun v hv => absurd hv (by show ¬ v < 0; omega), fun w hw => ?_, fun q hq => absurd hq (by show ¬ q < 0; omega), fun v hv => absurd hv (by show ¬ v < 0; omega), fun v q w hv => absurd hv (by show ¬ v < 0; omega)⟩
    have hw1 : w < 1 := hw
    have w0 : w = 0 := by omega
    subst w0
    exact ⟨c35.trans sb_3, c36.trans sb_4⟩
  have nc : NCl h 26 (cA A00) V00 := ⟨0, fun _ => 0, fun _ => 0, by decide +kernel, c27, fun e he => absurd he (by omega), fun s k hs' hk => absurd hk (by rw [sb_7 s hs']; omega)⟩
  have mn : MN h 53 0 0 M0 := ⟨h53, h53', fun k hk => absurd hk (by omega)⟩
  have hr : HR h 52 A00 (cnP A00 B00) (anS A00 (cnP A00 B00) Q00) M0 0 := by
    refine ⟨h52.trans sb_0, h52', fun w hw _ => ?_, fun w hw _ => ?_⟩
    · have hw1 : w < 1 := hw
      have w0 : w = 0 := by omega
      subst w0
      rw [pk4_15]
      exact h58
    · have hw1 : w < 1 := hw
      have w0 : w = 0 := by omega
      subst w0
      exact h59
  have sy : SY h A00 (cnP A00 B00) (anS A00 (cnP A00 B00) Q00) := fun v q w k hv => absurd hv (by show ¬ v < 0; omega)
  have cm : CM h A00 (cnP A00 B00) Q00 := by
    refine ⟨fun k hk _ _ h7 => ?_, fun w hw => ?_, fun q w hq hw => ?_⟩
    · rw [Nat.zero_add, e114 k hk]
      exact sb_5 k hk h7
    · rw [Nat.zero_add, e115 (w / 64) (by omega)]
      exact sb_6 w hw
    · rw [e115 (0 + 4 + 4 * q + w / 64) (by omega), if_neg (by omega), show (0 : Int64).toBitVec = 0#64 from rfl, BitVec.getLsbD_zero]
      rfl
  have a5 : h.2.1 114 5 = nI 0 := (e114 5 (by decide)).trans (by decide +kernel)
  have a6 : h.2.1 114 6 = nI 0 := (e114 6 (by decide)).trans (by decide +kernel)
  have a7 : h.2.1 114 7 = m1 := (e114 7 (by decide)).trans (by decide +kernel)
  have mm : MMo h (400 * 0) 0 0 M0 := mm_0.mpr ⟨a5, a6, fun r i hr => absurd hr (by omega)⟩
  have nr : NRe h (44 * 0) (cA A00) V00 := fun s j hs' hj => absurd hj (by rw [sb_7 s hs']; omega)
  have al : ALc 26 := Or.inl rfl
  have len : h.1.length = 136 := (congrArg List.length hs).trans SH0_len
  refine ⟨hl, ⟨(26, A00, cnP A00 B00, Q00, 0, 0, M0, cA A00, V00), 14, r.1, r.2.1, ⟨cs, al, cc, nc⟩, mn, hr, sy, ⟨cm_0.mpr cm, mm, nr⟩, Or.inl ⟨h14, a7⟩, ⟨⟨dv_00.1, wp_dv dv_00, dv_00.2.1, rfl, rfl, rfl, rfl⟩, (gm_0 (A := A00)).1, (gm_0 (A := A00)).2.1, Nat.zero_le 99⟩, Or.inl rfl, r.2.2.1, r.2.2.2⟩, ⟨0, by decide, s14, s47, fun i hi => absurd hi (by omega)⟩, ⟨?_, fun i hi c hc => ?_⟩, fun t ht => Or.inl (t4 t ht), s17.trans s3.symm, ⟨s2.1, s2.2.1⟩, Or.inl ⟨s15, s37⟩, Or.inl ⟨s16, s45⟩, ⟨0, by decide, s46, s11, fun j => (t5 j).trans (t120 j).symm, fun j => sb_8 (t5 j)⟩, ⟨s2.2.2.1, s2.2.2.2⟩, wd⟩
  · omega
  · rw [r11 i hi] at hc
    by_cases h0 : i = 0
    · rw [if_pos h0] at hc
      have e : 26 = c := Option.some.inj hc
      subst e
      exact ⟨cs, al⟩
    · rw [if_neg h0] at hc
      exact absurd hc (by simp)
theorem inv_B : Inv hB := inv_h0 hB_lay hB_sh hB_r hB_11 hB_c1 hB_h1 hB_114 hB_115 hB_t hB_s1 hB_s2 hB_w (eps_all (f := hB.2.1 5) hB_5e) (eps_all (f := hB.2.1 120) hB_120e)
theorem some_gD {α : Type} {o : Option α} {d : α} (h : o.isSome = true) : o = some (o.getD d) := by
  cases o with
  | none => first | exact absurd h Bool.false_ne_true | simp at h
  | some x => rfl
theorem law_goes {xs : Nat → Int32} {L : Nat} (hL : L ≤ 3072) {ha hb : aH} (e1 : f_X11_init (hN h00 11 20) 0 = some ha) (l1 : ha.1.length = 113) (e2 : f_X12_init (hN ha 12 48) 113 = some hb) (iv : Inv hb) : ∃ h' : aH, f_L_law xs L h00 = some (1, h') := by
  obtain ⟨h2, e3⟩ := lw_loop (xs := xs) hL 513 0 wN hb iv (by decide) (by omega) (by rw [wN_e]; decide)
  have w1 : nwO h00 11 20 = some (0, hN h00 11 20) := rfl
  have w2 : nwO ha 12 48 = some (113, hN ha 12 48) := by
    unfold nwO
    rw [l1]
  have w3 : f_L_law_l18 xs L 5 0 113 (0 : Int32) hb = some (.inr h2) := e3
  refine ⟨h2, ?_⟩
  unfold f_L_law
  rw [w1, bd2_some, e1, Option.bind_some, w2, bd2_some, e2, Option.bind_some, w3, Option.bind_some]
  try rfl
theorem hA_e : f_X11_init (hN h00 11 20) 0 = some hA := by
  unfold hA
  exact some_gD (d := h00) hA_ok
theorem hB_e : f_X12_init (hN hA 12 48) 113 = some hB := by
  unfold hB
  exact some_gD (d := h00) hB_ok
theorem pure_law (xs : Nat → Int32) (L : Nat) (hL : L ≤ 3072) : ∃ h' : aH, f_L_law xs L h00 = some (1, h') := law_goes hL hA_e ((congrArg List.length hA_sh).trans (by decide +kernel)) hB_e inv_B
