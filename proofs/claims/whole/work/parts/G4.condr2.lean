/-! ===== conditions: the reference's steps ===== -/
def ATn (k : aH) (A : Nat → Nat) : Prop := ∀ x, x < 64 → (x < 3 ∨ 8 ≤ x) → k.2.1 114 (1600 + x) = nI (A x)
theorem r_vN {k : aH} (kl : LAY k) {A : Nat → Nat} (h : ATn k A) (wf : WF A) {w f : Nat} (h1 : w < 256) (h2 : f < A 0) : f_X12_valueIn k 113 (nI 1600) (nI w) (nI f) = some (nI (valN A w f)) := by
  have hw := wf.1
  have a0 : k.2.1 114 1600 = nI (A 0) := h 0 (by decide) (by decide)
  have b0 := hw.1
  have st2 : ∀ g, g < A 0 → 2 ≤ A (60 + g) := fun g hg => (hw.2.2.2.2 g hg).1
  have e1 : f_X12_valueIn_l15 k 113 (nI 1600) (nI f) (nI w) (nI (A 0 - 1)) = some (nI (w / strd A f)) := by
    refine for0 (body := fun zz : Int32 × Int32 => f_X12_valueIn_b15 k 113 (nI 1600) (nI f) zz.1 zz.2) (fun j => (nI (w / stM A (A 0) j), nI (A 0 - 1 - j))) (A 0 - 1 - f) (e := nI (w / strd A f)) (by rw [stM, Nat.div_one, Nat.sub_zero]) (by omega) (fun j hj => ?_) ?_
    · have e := h (60 + (A 0 - 1 - j)) (by omega) (by omega)
      have q := hw.2.2.2.2 (A 0 - 1 - j) (by omega)
      have s0 := stM_pos st2 j (by omega)
      have d1 : w / stM A (A 0) j < 256 := Nat.lt_of_le_of_lt (Nat.div_le_self _ _) h1
      rw [← Nat.add_assoc] at e
      simp (disch := first | assumption | omega | decide | ((repeat first | apply lyI | apply lyJ | apply lywI | apply lywJ | apply csI | apply csJ | apply cswI | apply cswJ); assumption)) only [f_X12_valueIn_b15, SM, LI, ↓li_m1, nI_add, pk_mul, nn_sub, nn_m1, nn_div, nn_rem, nn_nz, nn_mod, nJ_l, lN_add, lN_mul, nn_tb1, nI_bt, nn_and, nn_or, nn_xor, nn_shr, nn_1shl, nn_31, il_p, il_n, it_p, it_n, ie_p, ie_n, ie_b, ie_b1, ie_m, ie_mm, it_m, it_m0, il_m0, bI_rZ, Option.bind_some, bd2_some, Nat.add_zero, Nat.zero_add, if_true, if_false, Bool.false_eq_true, eq_self, hI_R, hJ_R, ng_t, ng_e, e]
      rw [Nat.div_div_eq_div_mul]
      rfl
    · simp (disch := first | assumption | omega | decide | ((repeat first | apply lyI | apply lyJ | apply lywI | apply lywJ | apply csI | apply csJ | apply cswI | apply cswJ); assumption)) only [f_X12_valueIn_b15, SM, LI, ↓li_m1, nI_add, pk_mul, nn_sub, nn_m1, nn_div, nn_rem, nn_nz, nn_mod, nJ_l, lN_add, lN_mul, nn_tb1, nI_bt, nn_and, nn_or, nn_xor, nn_shr, nn_1shl, nn_31, il_p, il_n, it_p, it_n, ie_p, ie_n, ie_b, ie_b1, ie_m, ie_mm, it_m, it_m0, il_m0, bI_rZ, Option.bind_some, bd2_some, Nat.add_zero, Nat.zero_add, if_true, if_false, Bool.false_eq_true, eq_self, hI_R, hJ_R, ng_t, ng_e]
      rfl
  have e2 := h (56 + f) (by omega) (by omega)
  have e3 := h (60 + f) (by omega) (by omega)
  have q := hw.2.2.2.2 f h2
  have d1 : w / strd A f < 256 := Nat.lt_of_le_of_lt (Nat.div_le_self _ _) h1
  rw [← Nat.add_assoc] at e2 e3
  simp (disch := first | assumption | omega | decide | ((repeat first | apply lyI | apply lyJ | apply lywI | apply lywJ | apply csI | apply csJ | apply cswI | apply cswJ); assumption)) only [f_X12_valueIn, SM, LI, ↓li_m1, nI_add, pk_mul, nn_sub, nn_m1, nn_div, nn_rem, nn_nz, nn_mod, nJ_l, lN_add, lN_mul, nn_tb1, nI_bt, nn_and, nn_or, nn_xor, nn_shr, nn_1shl, nn_31, il_p, il_n, it_p, it_n, ie_p, ie_n, ie_b, ie_b1, ie_m, ie_mm, it_m, it_m0, il_m0, bI_rZ, Option.bind_some, bd2_some, Nat.add_zero, Nat.zero_add, if_true, if_false, Bool.false_eq_true, eq_self, hI_R, hJ_R, ng_t, ng_e, a0, e1, e2, e3]
  rfl
theorem at_fr {k k' : aH} {A : Nat → Nat} {cI cJ f0 f1 : List Nat} (f : FR k k' cI cJ f0 f1) (h1 : 114 ∉ cI) (h : ATn k A) : ATn k' A := fun x hx h7 => by
  rw [f.I 114 h1 (by decide) (by decide)]
  exact h x hx h7
theorem r_push {k0 k : aH} {T : Nat → Nat} {n i : Nat} {P : Nat → Bool} {Z : List WS} {D : List Nat} {w : Nat} (rs : RSt k0 k T n i P Z D w) {A : Nat → Nat} (ak : ATn k A) (wf : WF A) {v : Nat} (hv : v < A 1) (z50 : Z.length < 50) (hP : ∀ w, P w = true → w < A 2) : ∃ k', f_X12_pushes k 113 (nI v) = some k' ∧ RSt k0 k' T n i P (vlB A v :: Z) D w := by
  obtain ⟨r1, r2, ⟨r3, r4, r5⟩, zz, dd, r8, r9, r10⟩ := rs
  obtain ⟨b0, b1, b2l, b2, b3, b4⟩ := wf_b wf
  have kl := r2.1
  have hf := (wf.2.2.2.1 v hv).1
  have e1 : ∃ h', f_X12_pushes_l2 113 (nI v) (nI 0) k = some h' ∧ FR k h' [] [123] [] [] ∧ (∀ x, x < 4 → h'.2.2.1 123 (4 * Z.length + x) = 0) ∧ ∀ x, x < 4 * Z.length → h'.2.2.1 123 x = k.2.2.1 123 x := by
    refine forI (fun j (t : Int32 × aH) => ∃ g, t = (nI j, g) ∧ FR k g [] [123] [] [] ∧ (∀ x, x < j → g.2.2.1 123 (4 * Z.length + x) = 0) ∧ ∀ x, x < 4 * Z.length → g.2.2.1 123 x = k.2.2.1 123 x) _ 4 (by decide) ⟨k, rfl, FR.rf, fun x hx => absurd hx (by omega), fun _ _ => rfl⟩ ?_ ?_
    · rintro j _ hj ⟨g, rfl, fg, i1, i2⟩
      have lg := fg.lay kl
      have q25 : g.2.1 113 25 = nI Z.length := (fg.2.2.2.2.2 25 (by decide)).trans r3
      refine ⟨(nI (j + 1), hJ g 123 (4 * Z.length + j) 0), by simp (disch := first | assumption | omega | decide | ((repeat first | apply lyI | apply lyJ | apply lywI | apply lywJ | apply csI | apply csJ | apply cswI | apply cswJ); assumption)) only [f_X12_pushes_b2, SM, LI, ↓li_m1, nI_add, pk_mul, nn_sub, nn_m1, nn_div, nn_rem, nn_nz, nn_mod, nJ_l, lN_add, lN_mul, nn_tb1, nI_bt, nn_and, nn_or, nn_xor, nn_shr, nn_1shl, nn_31, il_p, il_n, it_p, it_n, ie_p, ie_n, ie_b, ie_b1, ie_m, ie_mm, it_m, it_m0, il_m0, bI_rZ, Option.bind_some, bd2_some, Nat.add_zero, Nat.zero_add, if_true, if_false, Bool.false_eq_true, eq_self, hI_R, hJ_R, ng_t, ng_e, q25], _, rfl, fg.tr (FR.hJ (by decide)), fun x hx => ?_, fun x hx => ?_⟩
      · by_cases hxj : x = j
        · rw [hxj, rJ_eq]
        · rw [rJ_nk (by omega)]
          exact i1 x (by omega)
      · rw [rJ_nk (by omega)]
        exact i2 x hx
    · rintro _ ⟨g, rfl, fg, i1, i2⟩
      exact ⟨g, by simp (disch := first | assumption | omega | decide | ((repeat first | apply lyI | apply lyJ | apply lywI | apply lywJ | apply csI | apply csJ | apply cswI | apply cswJ); assumption)) only [f_X12_pushes_b2, LI, ↓li_m1, nI_add, pk_mul, nn_sub, nn_m1, nn_div, nn_rem, nn_nz, nn_mod, nJ_l, lN_add, lN_mul, nn_tb1, nI_bt, nn_and, nn_or, nn_xor, nn_shr, nn_1shl, nn_31, il_p, il_n, it_p, it_n, ie_p, ie_n, ie_b, ie_b1, ie_m, ie_mm, it_m, it_m0, il_m0, bI_rZ, Option.bind_some, bd2_some, Nat.add_zero, Nat.zero_add, if_true, if_false, Bool.false_eq_true, eq_self, hI_R, hJ_R, ng_t, ng_e], fg, i1, i2⟩
  obtain ⟨g0, e0, f0, z0, y0⟩ := e1
  have e2 : ∃ h', f_X12_pushes_l29 113 (nI v) (nI 0) g0 = some h' ∧ FR k h' [] [123] [] [] ∧ (∀ x i, x < 4 → i < 64 → (h'.2.2.1 123 (4 * Z.length + x)).toBitVec.getLsbD i = (decide (64 * x + i < A 2) && vlB A v (64 * x + i))) ∧ ∀ x, x < 4 * Z.length → h'.2.2.1 123 x = k.2.2.1 123 x := by
    refine forI (fun j (t : Int32 × aH) => ∃ g, t = (nI j, g) ∧ FR k g [] [123] [] [] ∧ (∀ x i, x < 4 → i < 64 → (g.2.2.1 123 (4 * Z.length + x)).toBitVec.getLsbD i = (decide (64 * x + i < j) && vlB A v (64 * x + i))) ∧ ∀ x, x < 4 * Z.length → g.2.2.1 123 x = k.2.2.1 123 x) _ (A 2) (by omega) ⟨g0, rfl, f0, fun x i hx hi => by
      rw [z0 x hx, decide_eq_false (by omega), Bool.false_and, show (0 : Int64).toBitVec = 0#64 from rfl, BitVec.getLsbD_zero], y0⟩ ?_ ?_
    · rintro j _ hj ⟨g, rfl, fg, i1, i2⟩
      have lg := fg.lay kl
      have ag := at_fr fg (by decide) ak
      have c2 : g.2.1 114 1602 = nI (A 2) := ag 2 (by decide) (by decide)
      have cv : g.2.1 114 (1608 + v) = nI (A (8 + v)) := by
        rw [show 1608 + v = 1600 + (8 + v) by omega]
        exact ag (8 + v) (by omega) (by omega)
      have q25 : g.2.1 113 25 = nI Z.length := (fg.2.2.2.2.2 25 (by decide)).trans r3
      have r1 := r_vN lg ag wf (w := j) (f := A (8 + v)) (by omega) hf
      have vl := val_lt wf (w := j) hf
      rcases (Bool.eq_false_or_eq_true (vlB A v j)).symm with hb | hb
      · have ne : ¬ nI (valN A j (A (8 + v))) = nI v := d_ne (by omega) (by omega) (by
          unfold vlB at hb
          simpa using hb)
        refine ⟨(nI (j + 1), g), by simp (disch := first | assumption | omega | decide | ((repeat first | apply lyI | apply lyJ | apply lywI | apply lywJ | apply csI | apply csJ | apply cswI | apply cswJ); assumption)) only [f_X12_pushes_b29, f_X12_pushes_j88, SM, LI, ↓li_m1, nI_add, pk_mul, nn_sub, nn_m1, nn_div, nn_rem, nn_nz, nn_mod, nJ_l, lN_add, lN_mul, nn_tb1, nI_bt, nn_and, nn_or, nn_xor, nn_shr, nn_1shl, nn_31, il_p, il_n, it_p, it_n, ie_p, ie_n, ie_b, ie_b1, ie_m, ie_mm, it_m, it_m0, il_m0, bI_rZ, Option.bind_some, bd2_some, Nat.add_zero, Nat.zero_add, if_true, if_false, Bool.false_eq_true, eq_self, hI_R, hJ_R, ng_t, ng_e, c2, cv, r1, if_neg ne], g, rfl, fg, fun x i hx hi => ?_, i2⟩
        rw [i1 x i hx hi]
        by_cases hy : 64 * x + i = j
        · rw [hy, hb, Bool.and_false, Bool.and_false]
        · rw [show decide (64 * x + i < j + 1) = decide (64 * x + i < j) from by rw [decide_eq_decide]; omega]
      · have eq : valN A j (A (8 + v)) = v := by
          unfold vlB at hb
          simpa using hb
        rw [eq] at r1
        refine ⟨(nI (j + 1), hJ g 123 (4 * Z.length + j / 64) (g.2.2.1 123 (4 * Z.length + j / 64) ||| ((1 : Int64) <<< ((nI (j % 64)).toInt64 &&& 63)))), by simp (disch := first | assumption | omega | decide | ((repeat first | apply lyI | apply lyJ | apply lywI | apply lywJ | apply csI | apply csJ | apply cswI | apply cswJ); assumption)) only [f_X12_pushes_b29, f_X12_pushes_j88, SM, LI, ↓li_m1, nI_add, pk_mul, nn_sub, nn_m1, nn_div, nn_rem, nn_nz, nn_mod, lN_add, lN_mul, nn_tb1, nI_bt, nn_and, nn_or, nn_xor, nn_shr, nn_1shl, nn_31, il_p, il_n, it_p, it_n, ie_p, ie_n, ie_b, ie_b1, ie_m, ie_mm, it_m, it_m0, il_m0, bI_rZ, Option.bind_some, bd2_some, Nat.add_zero, Nat.zero_add, if_true, if_false, Bool.false_eq_true, eq_self, hI_R, hJ_R, ng_t, ng_e, c2, cv, r1, q25], _, rfl, fg.tr (FR.hJ (by decide)), fun x i hx hi => ?_, fun x hx => ?_⟩
        · by_cases hkj : x = j / 64
          · subst hkj
            rw [rJ_eq, j_set (by omega) hi, i1 _ i hx hi]
            by_cases hy : i = j % 64
            · rw [decide_eq_true hy, Bool.or_true, show 64 * (j / 64) + i = j by omega, hb, decide_eq_true (by omega)]
              rfl
            · rw [decide_eq_false hy, Bool.or_false, show decide (64 * (j / 64) + i < j + 1) = decide (64 * (j / 64) + i < j) from by rw [decide_eq_decide]; omega]
          · rw [rJ_nk (by omega), i1 x i hx hi, show decide (64 * x + i < j + 1) = decide (64 * x + i < j) from by rw [decide_eq_decide]; omega]
        · rw [rJ_nk (by omega)]
          exact i2 x hx
    · rintro _ ⟨g, rfl, fg, i1, i2⟩
      have lg := fg.lay kl
      have c2 : g.2.1 114 1602 = nI (A 2) := at_fr fg (by decide) ak 2 (by decide) (by decide)
      exact ⟨g, by simp (disch := first | assumption | omega | decide | ((repeat first | apply lyI | apply lyJ | apply lywI | apply lywJ | apply csI | apply csJ | apply cswI | apply cswJ); assumption)) only [f_X12_pushes_b29, SM, LI, ↓li_m1, nI_add, pk_mul, nn_sub, nn_m1, nn_div, nn_rem, nn_nz, nn_mod, nJ_l, lN_add, lN_mul, nn_tb1, nI_bt, nn_and, nn_or, nn_xor, nn_shr, nn_1shl, nn_31, il_p, il_n, it_p, it_n, ie_p, ie_n, ie_b, ie_b1, ie_m, ie_mm, it_m, it_m0, il_m0, bI_rZ, Option.bind_some, bd2_some, Nat.add_zero, Nat.zero_add, if_true, if_false, Bool.false_eq_true, eq_self, hI_R, hJ_R, ng_t, ng_e, c2], fg, i1, i2⟩
  obtain ⟨g, e3, f3, i3, y3⟩ := e2
  have q25 : g.2.1 113 25 = nI Z.length := (f3.2.2.2.2.2 25 (by decide)).trans r3
  have lg := f3.lay kl
  have fz : FR k (hI g 113 25 (nI (Z.length + 1))) [] [123] [] [25] := (f3.mono (by decide) (by decide) (by decide) (by decide)).tr (fr_1 (by decide))
  refine ⟨hI g 113 25 (nI (Z.length + 1)), by simp (disch := first | assumption | omega | decide | ((repeat first | apply lyI | apply lyJ | apply lywI | apply lywJ | apply csI | apply csJ | apply cswI | apply cswJ); assumption)) only [f_X12_pushes, SM, LI, ↓li_m1, nI_add, pk_mul, nn_sub, nn_m1, nn_div, nn_rem, nn_nz, nn_mod, nJ_l, lN_add, lN_mul, nn_tb1, nI_bt, nn_and, nn_or, nn_xor, nn_shr, nn_1shl, nn_31, il_p, il_n, it_p, it_n, ie_p, ie_n, ie_b, ie_b1, ie_m, ie_mm, it_m, it_m0, il_m0, bI_rZ, Option.bind_some, bd2_some, Nat.add_zero, Nat.zero_add, if_true, if_false, Bool.false_eq_true, eq_self, hI_R, hJ_R, ng_t, ng_e, e0, e3, q25], r1.tr (fz.mono (by decide) (by decide) (by decide) (by decide)), rc_fr fz (by decide) (by decide) r2, ⟨rI_eq, (fz.2.2.2.2.2 26 (by decide)).trans r4, (fz.2.2.2.2.2 27 (by decide)).trans r5⟩, ⟨fun u hu hp => ?_, zl_c (fun x hx => y3 x hx) zz⟩, dl_c (fun x _ => by rw [fz.I 124 (by decide) (by decide) (by decide)]) dd, by simp only [List.length_cons]; omega, r9, r10⟩
  have := i3 (u / 64) (u % 64) (by omega) (by omega)
  rw [show 64 * (u / 64) + u % 64 = u by omega, decide_eq_true (hP u hp), Bool.true_and] at this
  exact this
theorem wl_l {S E : Type} {F : Nat} {b : S → Option (S ⊕ E)} {s s' : S} (h : b s = some (.inl s')) : whileL (F + 1) b s = whileL F b s' := by
  show (b s).bind (wlK (whileL F b)) = _
  rw [h]
  rfl
theorem wl_r {S E : Type} {F : Nat} {b : S → Option (S ⊕ E)} {s : S} {e : E} (h : b s = some (.inr e)) : whileL (F + 1) b s = some e := by
  show (b s).bind (wlK (whileL F b)) = _
  rw [h]
  rfl
theorem wl_s {S E : Type} {F : Nat} {b : S → Option (S ⊕ E)} {s : S} : whileL (F + 1) b s = (b s).bind (wlK (whileL F b)) := rfl
/-- how the reference goes on from each of its places -/
def fin31 (e : aH ⊕ aH) : Option (Int32 × aH) := match e with
  | .inl h16 => some ((0 : Int32), h16)
  | .inr h17 => (ck h17 12 113).bind fun _ => (f_X12_isOpen h17 113).bind fun t18 => if t18 = 0 then (f_X12_conditions_l115 113 h17).bind fun h21 => some ((1 : Int32), h21) else (ck h17 12 113).bind fun _ => bd2 (f_X12_fails h17 113 (2 : Int32)) fun t22 h23 => (rZ t22).bind fun t24 => some (t24, h23)
def aftQ (F1 : Nat) (x : Option (Int32 × aH)) : Option (Int32 × aH) := bd2 x fun t4 h5 => if t4 = 0 then some ((0 : Int32), h5) else (ck h5 12 113).bind fun _ => (f_X12_inWords h5 113 1).bind fun t6 => (whileL F1 (fun q : Int32 × aH => f_X12_conditions_b31 113 q.1 q.2) (t6, h5)).bind fin31
def oneT (e : aH ⊕ aH) : Option (Int32 × aH) := match e with
  | .inl h9 => (ck h9 12 113).bind fun _ => bd2 (f_X12_fails h9 113 (7 : Int32)) fun t10 h11 => (rZ t10).bind fun t12 => some (t12, h11)
  | .inr h13 => (gR h13 12 113 0).bind fun t14 => (lI h13 t14 (1601 : Int32)).bind fun t15 => (ck h13 12 113).bind fun _ => bd2 (f_X12_oldName h13 113 (176 : Int32) (4 : Int32) t15) fun t16 h17 => if t16 = 0 then some ((0 : Int32), h17) else (gI h17 12 113 21).bind fun t18 => (ck h17 12 113).bind fun _ => (f_X12_pushes h17 113 t18).bind fun h19 => (ck h19 12 113).bind fun _ => (f_X12_ahead h19 113).bind fun h20 => (ck h20 12 113).bind fun _ => (f_X12_turnsRound h20 113).bind fun h21 => (f_X12_aOne_l110 113 h21).bind fun h33 => some ((1 : Int32), h33)
def tl110 (F3 : Nat) (h21 : aH) : Option (Int32 × aH) := (whileL F3 (fun q : aH => f_X12_aOne_b110 113 q) h21).bind fun h33 => some ((1 : Int32), h33)
def rs110 (h26 : aH) : Option (aH ⊕ aH) := (gI h26 12 113 26).bind fun t27 => (pI h26 12 113 26 (t27 - (1 : Int32))).bind fun h28 => (gI h28 12 113 27).bind fun t29 => (pI h28 12 113 27 (t29 - (1 : Int32))).bind fun h30 => (ck h30 12 113).bind fun _ => (f_X12_ahead h30 113).bind fun h31 => (ck h31 12 113).bind fun _ => (f_X12_turnsRound h31 113).bind fun h32 => some (.inl h32)
def gxR (md F F1 F3 : Nat) (t : Int32) (k : aH) : Option (Int32 × aH) := match md with
  | 0 => aftQ F1 ((whileL F (fun q : aH => f_X12_aOne_b0 113 q) k).bind oneT)
  | 1 => aftQ F1 ((whileL F (fun q : aH => f_X12_turnsRound_b0 113 q) k).bind (tl110 F3))
  | 2 => aftQ F1 (tl110 F3 k)
  | 3 => aftQ F1 ((((whileL F (fun q : aH => f_X12_aOne_b126 113 q) k).bind rs110).bind (wlK (whileL F3 (fun q : aH => f_X12_aOne_b110 113 q)))).bind fun h33 => some ((1 : Int32), h33))
  | 4 => (whileL F1 (fun q : Int32 × aH => f_X12_conditions_b31 113 q.1 q.2) (t, k)).bind fin31
  | 5 => (((whileL F (fun q : aH => f_X12_conditions_b43 113 t q) k).bind fun h15 => f_X12_conditions_j74 h15 113 t).bind (wlK (whileL F1 (fun q : Int32 × aH => f_X12_conditions_b31 113 q.1 q.2)))).bind fin31
  | _ => (whileL F (fun q : aH => f_X12_conditions_b115 113 q) k).bind fun h21 => some ((1 : Int32), h21)
def ORq (k0 : aH) (T : Nat → Nat) (n : Nat) (P : Nat → Bool) (x : Option (Int32 × aH)) (r : CR) : Prop := match r with
  | .inl (f, q) => ∃ k', x = some (nI 0, k') ∧ FR k0 k' [124] [123] [] F22 ∧ RLx k' f q
  | .inr (i', S) => ∃ k', x = some (nI 1, k') ∧ FR k0 k' [124] [123] [] F22 ∧ RC k' T n i' ∧ ∀ w, w < 256 → P w = true → (k'.2.2.1 123 (w / 64)).toBitVec.getLsbD (w % 64) = S w
def GRf (k0 : aH) (T : Nat → Nat) (n : Nat) (P : Nat → Bool) (r : CR) : GT := fun md i Z D w => ∀ k, RSt k0 k T n i P Z D w → ∀ F F1 F3, 20 * (1000 - i) + 4 * D.length + (7 - md) < F → 20 * (1000 - i) + 4 * D.length + (7 - md) < F1 → 20 * (1000 - i) + 4 * D.length + (7 - md) < F3 → ORq k0 T n P (gxR md F F1 F3 (iwI T n i) k) r
theorem tr_e {h : aH} : f_X12_turnsRound h 113 = whileL wN (fun q : aH => f_X12_turnsRound_b0 113 q) h := by
  show ((whileL wN (fun q : aH => f_X12_turnsRound_b0 113 q) h).bind fun h14 => some h14) = _
  cases whileL wN (fun q : aH => f_X12_turnsRound_b0 113 q) h <;> rfl
theorem ex_s {F a : Nat} (h : a < F) : ∃ F', F = F' + 1 := ⟨F - 1, by omega⟩
theorem or_fl {k0 k k' : aH} {T : Nat → Nat} {n i : Nat} {P : Nat → Bool} {Z : List WS} {D : List Nat} {w : Nat} (rs : RSt k0 k T n i P Z D w) (f : FR k k' [] [] [] F13) {a b : Nat} (rl : RLx k' a b) {x : Option (Int32 × aH)} (e : x = some (nI 0, k')) : ORq k0 T n P x (.inl (a, b)) := ⟨k', e, rs.1.tr (f.mono (by decide) (by decide) (by decide) f13_22), rl⟩
theorem iw_20 {T : Nat → Nat} {n i : Nat} (t : tcI T n i = 20) : iwI T n i = nI 12 := (iw_e (q := 12) (by decide)).mpr t
theorem iw_18 {T : Nat → Nat} {n i : Nat} (t : tcI T n i = 18) : iwI T n i = nI 10 := (iw_e (q := 10) (by decide)).mpr t
theorem iw_19 {T : Nat → Nat} {n i : Nat} (t : tcI T n i = 19) : iwI T n i = nI 11 := (iw_e (q := 11) (by decide)).mpr t
theorem iw_n20 {T : Nat → Nat} {n i : Nat} (t : tcI T n i ≠ 20) : ¬ iwI T n i = nI 12 := fun e => t ((iw_e (q := 12) (by decide)).mp e)
theorem iw_n18 {T : Nat → Nat} {n i : Nat} (t : tcI T n i ≠ 18) : ¬ iwI T n i = nI 10 := fun e => t ((iw_e (q := 10) (by decide)).mp e)
theorem iw_n19 {T : Nat → Nat} {n i : Nat} (t : tcI T n i ≠ 19) : ¬ iwI T n i = nI 11 := fun e => t ((iw_e (q := 11) (by decide)).mp e)
/-- a not or an open bracket -/
theorem g_pre {k0 k : aH} {T : Nat → Nat} {n i : Nat} {P : Nat → Bool} {Z : List WS} {D : List Nat} {w x : Nat} (rs : RSt k0 k T n i P Z D w) (d50 : D.length < 50) (w6 : w < 6) (hx : (tcI T n i = 20 ∧ x = 12) ∨ (tcI T n i = 4 ∧ x = 40)) : ∃ k', f_X12_aOne_b0 113 k = some (.inl k') ∧ RSt k0 k' T n (i + 1) P Z (x :: D) (w + 1) := by
  obtain ⟨r1, r2, ⟨r3, r4, r5⟩, zz, dd, r8, r9, r10⟩ := rs
  have kl := r2.1
  have iw := r_inW kl r2.2.1
  let k1 := hI k 113 27 (nI (w + 1))
  let k2 := hI (hI k1 124 D.length (nI x)) 113 26 (nI (D.length + 1))
  have f1 : FR k k1 [] [] [] [27] := fr_1 (by decide)
  have f2 : FR k k2 [124] [] [] [26, 27] := ((f1.mono (by decide) (by decide) (by decide) (by decide)).tr (FR.hI (by decide) (by decide) (by decide))).tr (fr_1 (by decide))
  have rc1 := rc_fr f1 (by decide) (by decide) r2
  have rc2 := rc_fr f2 (by decide) (by decide) r2
  have sg0 := r_sign kl r2.2.1 (t := 4) (c := 40) (Or.inr (Or.inl ⟨rfl, rfl⟩))
  have sg := r_sign rc1.1 rc1.2.1 (t := 4) (c := 40) (Or.inr (Or.inl ⟨rfl, rfl⟩))
  have ds := r_does (k := k1) rc1.1 (L := D.length) (x := x) ((f1.2.2.2.2.2 26 (by decide)).trans r4) (by omega)
  obtain ⟨k3, e3, f3, rc3⟩ := r_go rc2
  have sg' : f_X12_isSign (hI k 113 27 (nI (w + 1))) 113 (nI 40) = some (bI (decide (tcI T n i = 4))) := sg
  have ds' : f_X12_does (hI k 113 27 (nI (w + 1))) 113 (nI x) = some k2 := ds
  have l1 : LAY k1 := kl
  have l2 : LAY k2 := kl
  have nw : ¬ nI w = nI 6 := d_ne (by omega) (by decide) (by omega)
  have rs2 : RSt k0 k2 T n i P Z (x :: D) (w + 1) := by
    refine ⟨r1.tr (f2.mono (by decide) (by decide) (by decide) (by decide)), rc2, ⟨(f2.2.2.2.2.2 25 (by decide)).trans r3, rI_eq, ?_⟩, zl_c (k := k) (fun y _ => rfl) zz, ⟨⟨?_, by omega⟩, dl_c (fun y hy => ?_) dd⟩, r8, by simp only [List.length_cons]; omega, by omega⟩
    · show (hI (hI (hI k 113 27 (nI (w + 1))) 124 D.length (nI x)) 113 26 (nI (D.length + 1))).2.1 113 27 = _
      rw [rI_nk (by decide), rI_ne (by decide), rI_eq]
    · show (hI (hI (hI k 113 27 (nI (w + 1))) 124 D.length (nI x)) 113 26 (nI (D.length + 1))).2.1 124 D.length = _
      rw [rI_ne (by decide), rI_eq]
    · show (hI (hI (hI k 113 27 (nI (w + 1))) 124 D.length (nI x)) 113 26 (nI (D.length + 1))).2.1 124 y = _
      rw [rI_ne (by decide), rI_nk (by omega), rI_ne (by decide)]
  refine ⟨k3, ?_, rs_13 rs2 f3 rc3⟩
  rcases hx with ⟨t, rfl⟩ | ⟨t, rfl⟩
  · rw [iw_20 t] at iw
    rw [decide_eq_false (by omega), bI_f] at sg'
    simp (disch := first | assumption | omega | decide | ((repeat first | apply lyI | apply lyJ | apply lywI | apply lywJ | apply csI | apply csJ | apply cswI | apply cswJ); assumption)) only [f_X12_aOne_b0, f_X12_aOne_j20, f_X12_aOne_j63, SM, LI, ↓li_m1, nI_add, pk_mul, nn_sub, nn_m1, nn_div, nn_rem, nn_nz, nn_mod, nJ_l, lN_add, lN_mul, nn_tb1, nI_bt, nn_and, nn_or, nn_xor, nn_shr, nn_1shl, nn_31, il_p, il_n, it_p, it_n, ie_p, ie_n, ie_b, ie_b1, ie_m, ie_mm, it_m, it_m0, il_m0, bI_rZ, Option.bind_some, bd2_some, Nat.add_zero, Nat.zero_add, if_true, if_false, Bool.false_eq_true, eq_self, hI_R, hJ_R, ng_t, ng_e, iw, r5, if_neg nw, sg', ds', e3]
  · have ni : ¬ iwI T n i = nI 12 := iw_n20 (by omega)
    rw [decide_eq_true t, bI_t] at sg' sg0
    simp (disch := first | assumption | omega | decide | ((repeat first | apply lyI | apply lyJ | apply lywI | apply lywJ | apply csI | apply csJ | apply cswI | apply cswJ); assumption)) only [f_X12_aOne_b0, f_X12_aOne_j20, f_X12_aOne_j63, SM, LI, ↓li_m1, nI_add, pk_mul, nn_sub, nn_m1, nn_div, nn_rem, nn_nz, nn_mod, nJ_l, lN_add, lN_mul, nn_tb1, nI_bt, nn_and, nn_or, nn_xor, nn_shr, nn_1shl, nn_31, il_p, il_n, it_p, it_n, ie_p, ie_n, ie_b, ie_b1, ie_m, ie_mm, it_m, it_m0, il_m0, bI_rZ, Option.bind_some, bd2_some, Nat.add_zero, Nat.zero_add, if_true, if_false, Bool.false_eq_true, eq_self, hI_R, hJ_R, ng_t, ng_e, iw, if_neg ni, sg0, r5, if_neg nw, sg', ds', e3]
/-- an and, an or -/
theorem g_op {k0 k : aH} {T : Nat → Nat} {n i : Nat} {P : Nat → Bool} {Z : List WS} {D : List Nat} {w x : Nat} (rs : RSt k0 k T n i P Z D w) (d50 : D.length < 50) (hx : x = 10 ∨ x = 11) : ∃ k', f_X12_conditions_j74 k 113 (nI x) = (bd2 (f_X12_aOne k' 113) fun t9 h10 => if t9 = 0 then some ((Sum.inr (Sum.inl h10)) : (Int32 × aH) ⊕ (aH ⊕ aH)) else (ck h10 12 113).bind fun _ => (f_X12_inWords h10 113 1).bind fun t11 => some (Sum.inl (t11, h10))) ∧ RSt k0 k' T n (i + 1) P Z (x :: D) w := by
  obtain ⟨r1, r2, ⟨r3, r4, r5⟩, zz, dd, r8, r9, r10⟩ := rs
  have kl := r2.1
  let k2 := hI (hI k 124 D.length (nI x)) 113 26 (nI (D.length + 1))
  have f2 : FR k k2 [124] [] [] [26] := (FR.hI (by decide) (by decide) (by decide)).tr (fr_1 (by decide))
  have rc2 := rc_fr f2 (by decide) (by decide) r2
  have ds : f_X12_does k 113 (nI x) = some k2 := r_does kl (L := D.length) (x := x) r4 (by omega)
  obtain ⟨k3, e3, f3, rc3⟩ := r_go rc2
  have l2 : LAY k2 := kl
  have l3 := rc3.1
  have rs2 : RSt k0 k2 T n i P Z (x :: D) w := by
    refine ⟨r1.tr (f2.mono (by decide) (by decide) (by decide) (by decide)), rc2, ⟨(f2.2.2.2.2.2 25 (by decide)).trans r3, rI_eq, (f2.2.2.2.2.2 27 (by decide)).trans r5⟩, zl_c (k := k) (fun y _ => rfl) zz, ⟨⟨?_, by omega⟩, dl_c (fun y hy => ?_) dd⟩, r8, by simp only [List.length_cons]; omega, r10⟩
    · show (hI (hI k 124 D.length (nI x)) 113 26 (nI (D.length + 1))).2.1 124 D.length = _
      rw [rI_ne (by decide), rI_eq]
    · show (hI (hI k 124 D.length (nI x)) 113 26 (nI (D.length + 1))).2.1 124 y = _
      rw [rI_ne (by decide), rI_nk (by omega)]
  refine ⟨k3, ?_, rs_13 rs2 f3 rc3⟩
  have c1 : ck k 12 113 = some () := (SM k kl).1
  have c2 : ck k2 12 113 = some () := (SM k2 l2).1
  have c3 : ck k3 12 113 = some () := (SM k3 l3).1
  unfold f_X12_conditions_j74
  rw [c1, Option.bind_some, ds, Option.bind_some, c2, Option.bind_some, e3, Option.bind_some, c3, Option.bind_some]
