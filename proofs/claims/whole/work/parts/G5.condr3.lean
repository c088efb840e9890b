/-! ===== conditions: the reference comes to what the class reads ===== -/
theorem aft_1 {F1 : Nat} {k : aH} (kl : LAY k) {t : Int32} (iw : f_X12_inWords k 113 1 = some t) : aftQ F1 (some ((1 : Int32), k)) = (whileL F1 (fun q : Int32 × aH => f_X12_conditions_b31 113 q.1 q.2) (t, k)).bind fin31 := by
  have e : ck k 12 113 = some () := (SM k kl).1
  show (if (1 : Int32) = 0 then some ((0 : Int32), k) else (ck k 12 113).bind fun _ => (f_X12_inWords k 113 1).bind fun t6 => (whileL F1 (fun q : Int32 × aH => f_X12_conditions_b31 113 q.1 q.2) (t6, k)).bind fin31) = _
  rw [if_neg (by decide), e, iw]
  rfl
theorem aft_0 {F1 : Nat} {k : aH} : aftQ F1 (some ((0 : Int32), k)) = some ((0 : Int32), k) := by
  unfold aftQ
  rw [bd2_some, if_pos rfl]
theorem aft_j {W : Int32 × aH → Option (aH ⊕ aH)} {x : Option (Int32 × aH)} : ((bd2 x fun t9 h10 => if t9 = 0 then some ((Sum.inr (Sum.inl h10)) : (Int32 × aH) ⊕ (aH ⊕ aH)) else (ck h10 12 113).bind fun _ => (f_X12_inWords h10 113 1).bind fun t11 => some (Sum.inl (t11, h10))).bind (wlK W)).bind fin31 = bd2 x fun t4 h5 => if t4 = 0 then some ((0 : Int32), h5) else (ck h5 12 113).bind fun _ => (f_X12_inWords h5 113 1).bind fun t6 => (W (t6, h5)).bind fin31 := by
  rcases x with _ | ⟨a, g⟩
  · rfl
  · rw [bd2_some, bd2_some]
    by_cases ha : a = 0
    · rw [if_pos ha, if_pos ha]
      rfl
    · rw [if_neg ha, if_neg ha]
      cases ck g 12 113
      · rfl
      · cases f_X12_inWords g 113 1 <;> rfl
theorem or_d {k0 k : aH} {T : Nat → Nat} {n i : Nat} {P : Nat → Bool} {S : WS} {w : Nat} (rs : RSt k0 k T n i P [S] [] w) {x : Option (Int32 × aH)} (e : x = some (nI 1, k)) : ORq k0 T n P x (.inr (i, S)) := by
  refine ⟨k, e, rs.1, rs.2.1, fun v hv hp => ?_⟩
  have := rs.2.2.2.1.1 v hv hp
  rw [show 4 * ([] : List WS).length + v / 64 = v / 64 from Nat.zero_add _] at this
  exact this
theorem clo_ref {k0 : aH} {T : Nat → Nat} {n : Nat} {A C : Nat → Nat} {V : Nat → List Nat} {P : Nat → Bool} (ak : ATn k0 A) (wf : WF A) (nr : NRe k0 176 C V) (nv : NV C V) (c1 : C 1 = A 1) (hP : ∀ w, P w = true → w < A 2) (r : CR) : CLO T n A C V r (GRf k0 T n P r) := by
  have nm : ∀ k, FR k0 k [124] [123] [] F22 → NRe k 176 C V := fun k f => nr_fr f (by decide) nr
  have k1 : ∀ k, FR k0 k [124] [123] [] F22 → k.2.1 114 1601 = nI (C 1) := fun k f => by
    rw [c1]
    exact at_fr f (by decide) ak 1 (by decide) (by decide)
  refine ⟨fun i Z D w i9 d50 w6 => ⟨fun t g => ?_, fun t g => ?_⟩, fun i Z D t hr => ?_, fun i Z D w t20 t4 hn hr => ?_, fun i Z D w v i9 z50 t20 t4 hn g => ?_, fun i X Z D w g => ?_, fun i Z D w hd g => ?_, fun i Z D w t hm g => ?_, fun i Z D w t g => ?_, fun i X Y Z D w op hop g => ?_, fun i Z D w i9 t g => ?_, fun i Z D w t g => ?_, fun i Z D w t18 t19 hm hr => ?_, fun i Z D w t18 t19 hm g => ?_, fun i X Y Z D w op t hop g => ?_, fun i Z D w i9 d50 h11 => ⟨fun t h10 g => ?_, fun t g => ?_⟩, fun i X Y Z D w op hop g => ?_, fun i S w hr => ?_⟩
  · intro k rs F F1 F3 hF hF1 hF3
    obtain ⟨F', rfl⟩ := ex_s hF
    obtain ⟨k', e, rs'⟩ := g_pre rs d50 w6 (x := 12) (Or.inl ⟨t, rfl⟩)
    show ORq k0 T n P (aftQ F1 ((whileL (F' + 1) (fun q : aH => f_X12_aOne_b0 113 q) k).bind oneT)) r
    rw [wl_l e]
    exact g k' rs' F' F1 F3 (by first | omega | (simp only [List.length_cons] at *; omega)) (by first | omega | (simp only [List.length_cons] at *; omega)) (by first | omega | (simp only [List.length_cons] at *; omega))
  · intro k rs F F1 F3 hF hF1 hF3
    obtain ⟨F', rfl⟩ := ex_s hF
    obtain ⟨k', e, rs'⟩ := g_pre rs d50 w6 (x := 40) (Or.inr ⟨t, rfl⟩)
    show ORq k0 T n P (aftQ F1 ((whileL (F' + 1) (fun q : aH => f_X12_aOne_b0 113 q) k).bind oneT)) r
    rw [wl_l e]
    exact g k' rs' F' F1 F3 (by first | omega | (simp only [List.length_cons] at *; omega)) (by first | omega | (simp only [List.length_cons] at *; omega)) (by first | omega | (simp only [List.length_cons] at *; omega))
  · intro k rs F F1 F3 hF hF1 hF3
    obtain ⟨F', rfl⟩ := ex_s hF
    obtain ⟨r1, r2, ⟨r3, r4, r5⟩, zz, dd, r8, r9, r10⟩ := id rs
    have kl := r2.1
    have iw := r_inW kl r2.2.1
    have sg := r_sign kl r2.2.1 (t := 4) (c := 40) (Or.inr (Or.inl ⟨rfl, rfl⟩))
    have e : f_X12_aOne_b0 113 k = some (.inr (.inl k)) := by
      rcases t with t | t
      · rw [iw_20 t] at iw
        simp (disch := first | assumption | omega | decide | ((repeat first | apply lyI | apply lyJ | apply lywI | apply lywJ | apply csI | apply csJ | apply cswI | apply cswJ); assumption)) only [f_X12_aOne_b0, f_X12_aOne_j20, SM, LI, ↓li_m1, nI_add, pk_mul, nn_sub, nn_m1, nn_div, nn_rem, nn_nz, nn_mod, nJ_l, lN_add, lN_mul, nn_tb1, nI_bt, nn_and, nn_or, nn_xor, nn_shr, nn_1shl, nn_31, il_p, il_n, it_p, it_n, ie_p, ie_n, ie_b, ie_b1, ie_m, ie_mm, it_m, it_m0, il_m0, bI_rZ, Option.bind_some, bd2_some, Nat.add_zero, Nat.zero_add, if_true, if_false, Bool.false_eq_true, eq_self, hI_R, hJ_R, ng_t, ng_e, iw, r5]
      · have ni : ¬ iwI T n i = nI 12 := iw_n20 (by omega)
        rw [decide_eq_true t, bI_t] at sg
        simp (disch := first | assumption | omega | decide | ((repeat first | apply lyI | apply lyJ | apply lywI | apply lywJ | apply csI | apply csJ | apply cswI | apply cswJ); assumption)) only [f_X12_aOne_b0, f_X12_aOne_j20, SM, LI, ↓li_m1, nI_add, pk_mul, nn_sub, nn_m1, nn_div, nn_rem, nn_nz, nn_mod, nJ_l, lN_add, lN_mul, nn_tb1, nI_bt, nn_and, nn_or, nn_xor, nn_shr, nn_1shl, nn_31, il_p, il_n, it_p, it_n, ie_p, ie_n, ie_b, ie_b1, ie_m, ie_mm, it_m, it_m0, il_m0, bI_rZ, Option.bind_some, bd2_some, Nat.add_zero, Nat.zero_add, if_true, if_false, Bool.false_eq_true, eq_self, hI_R, hJ_R, ng_t, ng_e, iw, if_neg ni, sg, r5]
    obtain ⟨k', e2, f2, rl⟩ := r_fail r2 7
    rw [fk_n (by omega)] at rl
    rw [hr]
    refine or_fl rs f2 rl ?_
    show aftQ F1 ((whileL (F' + 1) (fun q : aH => f_X12_aOne_b0 113 q) k).bind oneT) = _
    rw [wl_r e]
    have e3 : oneT (.inl k) = some (nI 0, k') := by simp (disch := first | assumption | omega | decide | ((repeat first | apply lyI | apply lyJ | apply lywI | apply lywJ | apply csI | apply csJ | apply cswI | apply cswJ); assumption)) only [oneT, SM, LI, ↓li_m1, nI_add, pk_mul, nn_sub, nn_m1, nn_div, nn_rem, nn_nz, nn_mod, nJ_l, lN_add, lN_mul, nn_tb1, nI_bt, nn_and, nn_or, nn_xor, nn_shr, nn_1shl, nn_31, il_p, il_n, it_p, it_n, ie_p, ie_n, ie_b, ie_b1, ie_m, ie_mm, it_m, it_m0, il_m0, bI_rZ, Option.bind_some, bd2_some, Nat.add_zero, Nat.zero_add, if_true, if_false, Bool.false_eq_true, eq_self, hI_R, hJ_R, ng_t, ng_e, e2, rz0]
    show aftQ F1 (oneT (.inl k)) = _
    rw [e3]
    exact aft_0
  · intro k rs F F1 F3 hF hF1 hF3
    obtain ⟨F', rfl⟩ := ex_s hF
    obtain ⟨r1, r2, ⟨r3, r4, r5⟩, zz, dd, r8, r9, r10⟩ := id rs
    have kl := r2.1
    have iw := r_inW kl r2.2.1
    have sg := r_sign kl r2.2.1 (t := 4) (c := 40) (Or.inr (Or.inl ⟨rfl, rfl⟩))
    have ni : ¬ iwI T n i = nI 12 := iw_n20 t20
    rw [decide_eq_false t4, bI_f] at sg
    have e : f_X12_aOne_b0 113 k = some (.inr (.inr k)) := by simp (disch := first | assumption | omega | decide | ((repeat first | apply lyI | apply lyJ | apply lywI | apply lywJ | apply csI | apply csJ | apply cswI | apply cswJ); assumption)) only [f_X12_aOne_b0, SM, LI, ↓li_m1, nI_add, pk_mul, nn_sub, nn_m1, nn_div, nn_rem, nn_nz, nn_mod, nJ_l, lN_add, lN_mul, nn_tb1, nI_bt, nn_and, nn_or, nn_xor, nn_shr, nn_1shl, nn_31, il_p, il_n, it_p, it_n, ie_p, ie_n, ie_b, ie_b1, ie_m, ie_mm, it_m, it_m0, il_m0, bI_rZ, Option.bind_some, bd2_some, Nat.add_zero, Nat.zero_add, if_true, if_false, Bool.false_eq_true, eq_self, hI_R, hJ_R, ng_t, ng_e, iw, if_neg ni, sg]
    obtain ⟨k', e2, f2, rl⟩ := (r_old r2 (nm k r1) nv (s := 1) (by decide) (by decide)).2 hn
    have e2' : f_X12_oldName k 113 (nI 176) (nI 4) (nI (C 1)) = some (nI 0, k') := e2
    have q1 := k1 k r1
    rw [hr]
    refine or_fl rs f2 rl ?_
    show aftQ F1 ((whileL (F' + 1) (fun q : aH => f_X12_aOne_b0 113 q) k).bind oneT) = _
    rw [wl_r e]
    have e3 : oneT (.inr k) = some (nI 0, k') := by simp (disch := first | assumption | omega | decide | ((repeat first | apply lyI | apply lyJ | apply lywI | apply lywJ | apply csI | apply csJ | apply cswI | apply cswJ); assumption)) only [oneT, SM, LI, ↓li_m1, nI_add, pk_mul, nn_sub, nn_m1, nn_div, nn_rem, nn_nz, nn_mod, nJ_l, lN_add, lN_mul, nn_tb1, nI_bt, nn_and, nn_or, nn_xor, nn_shr, nn_1shl, nn_31, il_p, il_n, it_p, it_n, ie_p, ie_n, ie_b, ie_b1, ie_m, ie_mm, it_m, it_m0, il_m0, bI_rZ, Option.bind_some, bd2_some, Nat.add_zero, Nat.zero_add, if_true, if_false, Bool.false_eq_true, eq_self, hI_R, hJ_R, ng_t, ng_e, q1, e2']
    show aftQ F1 (oneT (.inr k)) = _
    rw [e3]
    exact aft_0
  · intro k rs F F1 F3 hF hF1 hF3
    obtain ⟨F', rfl⟩ := ex_s hF
    obtain ⟨r1, r2, ⟨r3, r4, r5⟩, zz, dd, r8, r9, r10⟩ := id rs
    have kl := r2.1
    have iw := r_inW kl r2.2.1
    have sg := r_sign kl r2.2.1 (t := 4) (c := 40) (Or.inr (Or.inl ⟨rfl, rfl⟩))
    have ni : ¬ iwI T n i = nI 12 := iw_n20 t20
    rw [decide_eq_false t4, bI_f] at sg
    have e : f_X12_aOne_b0 113 k = some (.inr (.inr k)) := by simp (disch := first | assumption | omega | decide | ((repeat first | apply lyI | apply lyJ | apply lywI | apply lywJ | apply csI | apply csJ | apply cswI | apply cswJ); assumption)) only [f_X12_aOne_b0, SM, LI, ↓li_m1, nI_add, pk_mul, nn_sub, nn_m1, nn_div, nn_rem, nn_nz, nn_mod, nJ_l, lN_add, lN_mul, nn_tb1, nI_bt, nn_and, nn_or, nn_xor, nn_shr, nn_1shl, nn_31, il_p, il_n, it_p, it_n, ie_p, ie_n, ie_b, ie_b1, ie_m, ie_mm, it_m, it_m0, il_m0, bI_rZ, Option.bind_some, bd2_some, Nat.add_zero, Nat.zero_add, if_true, if_false, Bool.false_eq_true, eq_self, hI_R, hJ_R, ng_t, ng_e, iw, if_neg ni, sg]
    have e2 := (r_old r2 (nm k r1) nv (s := 1) (by decide) (by decide)).1 v hn
    have e2' : f_X12_oldName k 113 (nI 176) (nI 4) (nI (C 1)) = some (nI 1, hI k 113 21 (nI v)) := e2
    have q1 := k1 k r1
    have vb := (nm_6 hn).2
    have f21 : FR k (hI k 113 21 (nI v)) [] [] [] F13 := fr_1 (by decide)
    have rs1 := rs_13 rs f21 (rc_fr (fr_1 (cI := []) (cJ := []) (f0 := []) (f1 := [21]) (by decide)) (by decide) (by decide) r2)
    obtain ⟨k3, e3, rs3⟩ := r_push rs1 (at_fr rs1.1 (by decide) ak) wf (v := v) (by omega) z50 hP
    obtain ⟨k4, e4, f4, rc4⟩ := r_go rs3.2.1
    have rs4 := rs_13 rs3 f4 rc4
    have l1 : LAY (hI k 113 21 (nI v)) := kl
    have l3 := rs3.2.1.1
    have l4 := rs4.2.1.1
    have e5 : oneT (.inr k) = (f_X12_turnsRound k4 113).bind fun h21 => (f_X12_aOne_l110 113 h21).bind fun h33 => some ((1 : Int32), h33) := by simp (disch := first | assumption | omega | decide | ((repeat first | apply lyI | apply lyJ | apply lywI | apply lywJ | apply csI | apply csJ | apply cswI | apply cswJ); assumption)) only [oneT, SM, rI_eq, rI_ne, rI_nk, rJ_eq, rJ_ne, rJ_nk, rI_J, rJ_I, LI, ↓li_m1, nI_add, pk_mul, nn_sub, nn_m1, nn_div, nn_rem, nn_nz, nn_mod, nJ_l, lN_add, lN_mul, nn_tb1, nI_bt, nn_and, nn_or, nn_xor, nn_shr, nn_1shl, nn_31, il_p, il_n, it_p, it_n, ie_p, ie_n, ie_b, ie_b1, ie_m, ie_mm, it_m, it_m0, il_m0, bI_rZ, Option.bind_some, bd2_some, Nat.add_zero, Nat.zero_add, if_true, if_false, Bool.false_eq_true, eq_self, hI_R, hJ_R, ng_t, ng_e, q1, e2', e3, e4]
    show ORq k0 T n P (aftQ F1 ((whileL (F' + 1) (fun q : aH => f_X12_aOne_b0 113 q) k).bind oneT)) r
    rw [wl_r e]
    show ORq k0 T n P (aftQ F1 (oneT (.inr k))) r
    rw [e5, tr_e]
    exact g k4 rs4 wN F1 wN (by rw [wN_e]; omega) (by first | omega | (simp only [List.length_cons] at *; omega)) (by rw [wN_e]; omega)
  · intro k rs F F1 F3 hF hF1 hF3
    obtain ⟨F', rfl⟩ := ex_s hF
    obtain ⟨k', e, rs'⟩ := r_not rs
    show ORq k0 T n P (aftQ F1 ((whileL (F' + 1) (fun q : aH => f_X12_turnsRound_b0 113 q) k).bind (tl110 F3))) r
    rw [wl_l e]
    exact g k' rs' F' F1 F3 (by first | omega | (simp only [List.length_cons] at *; omega)) (by first | omega | (simp only [List.length_cons] at *; omega)) (by first | omega | (simp only [List.length_cons] at *; omega))
  · intro k rs F F1 F3 hF hF1 hF3
    obtain ⟨F', rfl⟩ := ex_s hF
    obtain ⟨r1, r2, ⟨r3, r4, r5⟩, zz, dd, r8, r9, r10⟩ := id rs
    have kl := r2.1
    have dg := r_doing kl dd r4 r9 (x := 12) (by decide)
    rw [decide_eq_false hd, bI_f] at dg
    have e : f_X12_turnsRound_b0 113 k = some (.inr k) := by simp (disch := first | assumption | omega | decide | ((repeat first | apply lyI | apply lyJ | apply lywI | apply lywJ | apply csI | apply csJ | apply cswI | apply cswJ); assumption)) only [f_X12_turnsRound_b0, SM, LI, ↓li_m1, nI_add, pk_mul, nn_sub, nn_m1, nn_div, nn_rem, nn_nz, nn_mod, nJ_l, lN_add, lN_mul, nn_tb1, nI_bt, nn_and, nn_or, nn_xor, nn_shr, nn_1shl, nn_31, il_p, il_n, it_p, it_n, ie_p, ie_n, ie_b, ie_b1, ie_m, ie_mm, it_m, it_m0, il_m0, bI_rZ, Option.bind_some, bd2_some, Nat.add_zero, Nat.zero_add, if_true, if_false, Bool.false_eq_true, eq_self, hI_R, hJ_R, ng_t, ng_e, dg]
    show ORq k0 T n P (aftQ F1 ((whileL (F' + 1) (fun q : aH => f_X12_turnsRound_b0 113 q) k).bind (tl110 F3))) r
    rw [wl_r e]
    exact g k rs F' F1 F3 (by first | omega | (simp only [List.length_cons] at *; omega)) (by first | omega | (simp only [List.length_cons] at *; omega)) (by first | omega | (simp only [List.length_cons] at *; omega))
  · intro k rs F F1 F3 hF hF1 hF3
    obtain ⟨F', rfl⟩ := ex_s hF3
    obtain ⟨r1, r2, ⟨r3, r4, r5⟩, zz, dd, r8, r9, r10⟩ := id rs
    have kl := r2.1
    have sg := r_sign kl r2.2.1 (t := 5) (c := 41) (Or.inr (Or.inr ⟨rfl, rfl⟩))
    have op := r_open kl dd r4 r9
    rw [decide_eq_true t, bI_t] at sg
    rw [decide_eq_true hm, bI_t] at op
    have e : f_X12_aOne_b110 113 k = (f_X12_aOne_l126 113 k).bind rs110 := by
      have ck1 : ck k 12 113 = some () := (SM k kl).1
      show ((ck k 12 113).bind fun _ => (f_X12_isSign k 113 (41 : Int32)).bind fun t22 => if t22 = 0 then some (.inr k) else (ck k 12 113).bind fun _ => (f_X12_isOpen k 113).bind fun t23 => if t23 = 0 then some (.inr k) else (f_X12_aOne_l126 113 k).bind rs110) = _
      have sg' : f_X12_isSign k 113 (41 : Int32) = some (nI 1) := sg
      rw [ck1, sg', op]
      rfl
    show ORq k0 T n P (aftQ F1 (((f_X12_aOne_b110 113 k).bind (wlK (whileL F' (fun q : aH => f_X12_aOne_b110 113 q)))).bind fun h33 => some ((1 : Int32), h33))) r
    rw [e]
    exact g k rs wN F1 F' (by rw [wN_e]; omega) (by first | omega | (simp only [List.length_cons] at *; omega)) (by first | omega | (simp only [List.length_cons] at *; omega))
  · intro k rs F F1 F3 hF hF1 hF3
    obtain ⟨F', rfl⟩ := ex_s hF3
    obtain ⟨r1, r2, ⟨r3, r4, r5⟩, zz, dd, r8, r9, r10⟩ := id rs
    have kl := r2.1
    have sg := r_sign kl r2.2.1 (t := 5) (c := 41) (Or.inr (Or.inr ⟨rfl, rfl⟩))
    have op := r_open kl dd r4 r9
    have e : f_X12_aOne_b110 113 k = some (.inr k) := by
      by_cases t5 : tcI T n i = 5
      · have hm : 40 ∉ D := fun hm => t ⟨t5, hm⟩
        rw [decide_eq_true t5, bI_t] at sg
        rw [decide_eq_false hm, bI_f] at op
        simp (disch := first | assumption | omega | decide | ((repeat first | apply lyI | apply lyJ | apply lywI | apply lywJ | apply csI | apply csJ | apply cswI | apply cswJ); assumption)) only [f_X12_aOne_b110, SM, LI, ↓li_m1, nI_add, pk_mul, nn_sub, nn_m1, nn_div, nn_rem, nn_nz, nn_mod, nJ_l, lN_add, lN_mul, nn_tb1, nI_bt, nn_and, nn_or, nn_xor, nn_shr, nn_1shl, nn_31, il_p, il_n, it_p, it_n, ie_p, ie_n, ie_b, ie_b1, ie_m, ie_mm, it_m, it_m0, il_m0, bI_rZ, Option.bind_some, bd2_some, Nat.add_zero, Nat.zero_add, if_true, if_false, Bool.false_eq_true, eq_self, hI_R, hJ_R, ng_t, ng_e, sg, op]
      · rw [decide_eq_false t5, bI_f] at sg
        simp (disch := first | assumption | omega | decide | ((repeat first | apply lyI | apply lyJ | apply lywI | apply lywJ | apply csI | apply csJ | apply cswI | apply cswJ); assumption)) only [f_X12_aOne_b110, SM, LI, ↓li_m1, nI_add, pk_mul, nn_sub, nn_m1, nn_div, nn_rem, nn_nz, nn_mod, nJ_l, lN_add, lN_mul, nn_tb1, nI_bt, nn_and, nn_or, nn_xor, nn_shr, nn_1shl, nn_31, il_p, il_n, it_p, it_n, ie_p, ie_n, ie_b, ie_b1, ie_m, ie_mm, it_m, it_m0, il_m0, bI_rZ, Option.bind_some, bd2_some, Nat.add_zero, Nat.zero_add, if_true, if_false, Bool.false_eq_true, eq_self, hI_R, hJ_R, ng_t, ng_e, sg]
    show ORq k0 T n P (aftQ F1 ((whileL (F' + 1) (fun q : aH => f_X12_aOne_b110 113 q) k).bind fun h33 => some ((1 : Int32), h33))) r
    rw [wl_r e]
    show ORq k0 T n P (aftQ F1 (some ((1 : Int32), k))) r
    rw [aft_1 kl (r_inW kl r2.2.1)]
    exact g k rs F F1 (F' + 1) (by first | omega | (simp only [List.length_cons] at *; omega)) (by first | omega | (simp only [List.length_cons] at *; omega)) (by first | omega | (simp only [List.length_cons] at *; omega))
  · intro k rs F F1 F3 hF hF1 hF3
    obtain ⟨F', rfl⟩ := ex_s hF
    obtain ⟨r1, r2, ⟨r3, r4, r5⟩, zz, dd, r8, r9, r10⟩ := id rs
    have kl := r2.1
    have dg := r_doing kl dd r4 r9 (x := 40) (by decide)
    rw [decide_eq_false (hd_n (by omega)), bI_f] at dg
    obtain ⟨k', e2, rs'⟩ := r_joins rs hop
    have e : f_X12_aOne_b126 113 k = some (.inl k') := by simp (disch := first | assumption | omega | decide | ((repeat first | apply lyI | apply lyJ | apply lywI | apply lywJ | apply csI | apply csJ | apply cswI | apply cswJ); assumption)) only [f_X12_aOne_b126, SM, LI, ↓li_m1, nI_add, pk_mul, nn_sub, nn_m1, nn_div, nn_rem, nn_nz, nn_mod, nJ_l, lN_add, lN_mul, nn_tb1, nI_bt, nn_and, nn_or, nn_xor, nn_shr, nn_1shl, nn_31, il_p, il_n, it_p, it_n, ie_p, ie_n, ie_b, ie_b1, ie_m, ie_mm, it_m, it_m0, il_m0, bI_rZ, Option.bind_some, bd2_some, Nat.add_zero, Nat.zero_add, if_true, if_false, Bool.false_eq_true, eq_self, hI_R, hJ_R, ng_t, ng_e, dg, e2]
    show ORq k0 T n P (aftQ F1 ((((whileL (F' + 1) (fun q : aH => f_X12_aOne_b126 113 q) k).bind rs110).bind (wlK (whileL F3 (fun q : aH => f_X12_aOne_b110 113 q)))).bind fun h33 => some ((1 : Int32), h33))) r
    rw [wl_l e]
    exact g k' rs' F' F1 F3 (by first | omega | (simp only [List.length_cons] at *; omega)) (by first | omega | (simp only [List.length_cons] at *; omega)) (by first | omega | (simp only [List.length_cons] at *; omega))
  · intro k rs F F1 F3 hF hF1 hF3
    obtain ⟨F', rfl⟩ := ex_s hF
    obtain ⟨r1, r2, ⟨r3, r4, r5⟩, zz, dd, r8, r9, r10⟩ := id rs
    have kl := r2.1
    have hd : (40 :: D).length = D.length + 1 := rfl
    have dg := r_doing kl dd r4 r9 (x := 40) (by decide)
    rw [decide_eq_true (show (40 :: D).head? = some 40 from rfl), bI_t] at dg
    rw [hd] at r4 r9
    have e : f_X12_aOne_b126 113 k = some (.inr k) := by simp (disch := first | assumption | omega | decide | ((repeat first | apply lyI | apply lyJ | apply lywI | apply lywJ | apply csI | apply csJ | apply cswI | apply cswJ); assumption)) only [f_X12_aOne_b126, SM, LI, ↓li_m1, nI_add, pk_mul, nn_sub, nn_m1, nn_div, nn_rem, nn_nz, nn_mod, nJ_l, lN_add, lN_mul, nn_tb1, nI_bt, nn_and, nn_or, nn_xor, nn_shr, nn_1shl, nn_31, il_p, il_n, it_p, it_n, ie_p, ie_n, ie_b, ie_b1, ie_m, ie_mm, it_m, it_m0, il_m0, bI_rZ, Option.bind_some, bd2_some, Nat.add_zero, Nat.zero_add, if_true, if_false, Bool.false_eq_true, eq_self, hI_R, hJ_R, ng_t, ng_e, dg]
    let k3 := hI (hI k 113 26 (nI D.length)) 113 27 (nI w)
    have f3 : FR k k3 [] [] [] [26, 27] := (fr_1 (by decide)).tr (fr_1 (by decide))
    have rc3 := rc_fr f3 (by decide) (by decide) r2
    have rs3 : RSt k0 k3 T n i P Z D w := by
      refine ⟨r1.tr (f3.mono (by decide) (by decide) (by decide) (by decide)), rc3, ⟨(f3.2.2.2.2.2 25 (by decide)).trans r3, ?_, rI_eq⟩, zl_c (k := k) (fun _ _ => rfl) zz, dl_c (fun y _ => by rw [f3.I 124 (by decide) (by decide) (by decide)]) dd.2, r8, by omega, by omega⟩
      show (hI (hI k 113 26 (nI D.length)) 113 27 (nI w)).2.1 113 26 = _
      rw [rI_nk (by decide), rI_eq]
    obtain ⟨k4, e4, f4, rc4⟩ := r_go rc3
    have rs4 := rs_13 rs3 f4 rc4
    have e4' : f_X12_ahead (hI (hI k 113 26 (nI D.length)) 113 27 (nI w)) 113 = some k4 := e4
    have l4 := rc4.1
    have e5 : rs110 k = (f_X12_turnsRound k4 113).bind fun h32 => some (.inl h32) := by simp (disch := first | assumption | omega | decide | ((repeat first | apply lyI | apply lyJ | apply lywI | apply lywJ | apply csI | apply csJ | apply cswI | apply cswJ); assumption)) only [rs110, SM, rI_eq, rI_ne, rI_nk, rJ_eq, rJ_ne, rJ_nk, rI_J, rJ_I, LI, ↓li_m1, nI_add, pk_mul, nn_sub, nn_m1, nn_div, nn_rem, nn_nz, nn_mod, nJ_l, lN_add, lN_mul, nn_tb1, nI_bt, nn_and, nn_or, nn_xor, nn_shr, nn_1shl, nn_31, il_p, il_n, it_p, it_n, ie_p, ie_n, ie_b, ie_b1, ie_m, ie_mm, it_m, it_m0, il_m0, bI_rZ, Option.bind_some, bd2_some, Nat.add_zero, Nat.zero_add, if_true, if_false, Bool.false_eq_true, eq_self, hI_R, hJ_R, ng_t, ng_e, r4, r5, Nat.add_sub_cancel, e4']
    show ORq k0 T n P (aftQ F1 ((((whileL (F' + 1) (fun q : aH => f_X12_aOne_b126 113 q) k).bind rs110).bind (wlK (whileL F3 (fun q : aH => f_X12_aOne_b110 113 q)))).bind fun h33 => some ((1 : Int32), h33))) r
    rw [wl_r e]
    show ORq k0 T n P (aftQ F1 (((rs110 k).bind (wlK (whileL F3 (fun q : aH => f_X12_aOne_b110 113 q)))).bind fun h33 => some ((1 : Int32), h33))) r
    rw [e5, tr_e]
    have e6 : ((((whileL wN (fun q : aH => f_X12_turnsRound_b0 113 q) k4).bind fun h32 => some (Sum.inl h32 : aH ⊕ aH)).bind (wlK (whileL F3 (fun q : aH => f_X12_aOne_b110 113 q)))).bind fun h33 => some ((1 : Int32), h33)) = (whileL wN (fun q : aH => f_X12_turnsRound_b0 113 q) k4).bind (tl110 F3) := by
      cases whileL wN (fun q : aH => f_X12_turnsRound_b0 113 q) k4 <;> rfl
    rw [e6]
    exact g k4 rs4 wN F1 F3 (by rw [wN_e]; omega) (by first | omega | (simp only [List.length_cons] at *; omega)) (by first | omega | (simp only [List.length_cons] at *; omega))
  · intro k rs F F1 F3 hF hF1 hF3
    obtain ⟨F', rfl⟩ := ex_s hF1
    have e : f_X12_conditions_b31 113 (iwI T n i) k = (f_X12_conditions_l43 113 (iwI T n i) k).bind fun h15 => f_X12_conditions_j74 h15 113 (iwI T n i) := by
      rcases t with t | t
      · rw [iw_18 t]
        rfl
      · rw [iw_19 t]
        rfl
    show ORq k0 T n P (((f_X12_conditions_b31 113 (iwI T n i) k).bind (wlK (whileL F' (fun q : Int32 × aH => f_X12_conditions_b31 113 q.1 q.2)))).bind fin31) r
    rw [e]
    exact g k rs wN F' F3 (by obtain ⟨r1, r2, r3, zz, dd, r8, r9, r10⟩ := rs; rw [wN_e]; omega) (by first | omega | (simp only [List.length_cons] at *; omega)) (by first | omega | (simp only [List.length_cons] at *; omega))
  · intro k rs F F1 F3 hF hF1 hF3
    obtain ⟨F', rfl⟩ := ex_s hF1
    obtain ⟨r1, r2, ⟨r3, r4, r5⟩, zz, dd, r8, r9, r10⟩ := id rs
    have kl := r2.1
    have op := r_open kl dd r4 r9
    rw [decide_eq_true hm, bI_t] at op
    have e : f_X12_conditions_b31 113 (iwI T n i) k = some (.inr (.inr k)) := by
      show (if iwI T n i = nI 10 then _ else if iwI T n i = nI 11 then _ else _) = _
      rw [if_neg (iw_n18 t18), if_neg (iw_n19 t19)]
    obtain ⟨k', e2, f2, rl⟩ := r_fail r2 2
    rw [hr]
    refine or_fl rs f2 rl ?_
    show (whileL (F' + 1) (fun q : Int32 × aH => f_X12_conditions_b31 113 q.1 q.2) (iwI T n i, k)).bind fin31 = _
    rw [wl_r e]
    show fin31 (.inr k) = _
    simp (disch := first | assumption | omega | decide | ((repeat first | apply lyI | apply lyJ | apply lywI | apply lywJ | apply csI | apply csJ | apply cswI | apply cswJ); assumption)) only [fin31, SM, LI, ↓li_m1, nI_add, pk_mul, nn_sub, nn_m1, nn_div, nn_rem, nn_nz, nn_mod, nJ_l, lN_add, lN_mul, nn_tb1, nI_bt, nn_and, nn_or, nn_xor, nn_shr, nn_1shl, nn_31, il_p, il_n, it_p, it_n, ie_p, ie_n, ie_b, ie_b1, ie_m, ie_mm, it_m, it_m0, il_m0, bI_rZ, Option.bind_some, bd2_some, Nat.add_zero, Nat.zero_add, if_true, if_false, Bool.false_eq_true, eq_self, hI_R, hJ_R, ng_t, ng_e, op, e2, rz0]
  · intro k rs F F1 F3 hF hF1 hF3
    obtain ⟨F', rfl⟩ := ex_s hF1
    obtain ⟨r1, r2, ⟨r3, r4, r5⟩, zz, dd, r8, r9, r10⟩ := id rs
    have kl := r2.1
    have op := r_open kl dd r4 r9
    rw [decide_eq_false hm, bI_f] at op
    have e : f_X12_conditions_b31 113 (iwI T n i) k = some (.inr (.inr k)) := by
      show (if iwI T n i = nI 10 then _ else if iwI T n i = nI 11 then _ else _) = _
      rw [if_neg (iw_n18 t18), if_neg (iw_n19 t19)]
    show ORq k0 T n P ((whileL (F' + 1) (fun q : Int32 × aH => f_X12_conditions_b31 113 q.1 q.2) (iwI T n i, k)).bind fin31) r
    rw [wl_r e]
    have e2 : fin31 (.inr k) = (f_X12_conditions_l115 113 k).bind fun h21 => some ((1 : Int32), h21) := by simp (disch := first | assumption | omega | decide | ((repeat first | apply lyI | apply lyJ | apply lywI | apply lywJ | apply csI | apply csJ | apply cswI | apply cswJ); assumption)) only [fin31, SM, LI, ↓li_m1, nI_add, pk_mul, nn_sub, nn_m1, nn_div, nn_rem, nn_nz, nn_mod, nJ_l, lN_add, lN_mul, nn_tb1, nI_bt, nn_and, nn_or, nn_xor, nn_shr, nn_1shl, nn_31, il_p, il_n, it_p, it_n, ie_p, ie_n, ie_b, ie_b1, ie_m, ie_mm, it_m, it_m0, il_m0, bI_rZ, Option.bind_some, bd2_some, Nat.add_zero, Nat.zero_add, if_true, if_false, Bool.false_eq_true, eq_self, hI_R, hJ_R, ng_t, ng_e, op]
    show ORq k0 T n P (fin31 (.inr k)) r
    rw [e2]
    exact g k rs wN F' F3 (by rw [wN_e]; omega) (by first | omega | (simp only [List.length_cons] at *; omega)) (by first | omega | (simp only [List.length_cons] at *; omega))
  · intro k rs F F1 F3 hF hF1 hF3
    obtain ⟨F', rfl⟩ := ex_s hF
    obtain ⟨r1, r2, ⟨r3, r4, r5⟩, zz, dd, r8, r9, r10⟩ := id rs
    have kl := r2.1
    have dg := r_doing kl dd r4 r9 (x := 11) (by decide)
    have dg2 := r_doing kl dd r4 r9 (x := 10) (by decide)
    obtain ⟨k', e2, rs'⟩ := r_joins rs (by omega)
    have e : f_X12_conditions_b43 113 (iwI T n i) k = some (.inl k') := by
      rcases hop with rfl | ⟨rfl, t'⟩
      · rw [decide_eq_true (show (11 :: D).head? = some 11 from rfl), bI_t] at dg
        simp (disch := first | assumption | omega | decide | ((repeat first | apply lyI | apply lyJ | apply lywI | apply lywJ | apply csI | apply csJ | apply cswI | apply cswJ); assumption)) only [f_X12_conditions_b43, f_X12_conditions_j67, SM, LI, ↓li_m1, nI_add, pk_mul, nn_sub, nn_m1, nn_div, nn_rem, nn_nz, nn_mod, nJ_l, lN_add, lN_mul, nn_tb1, nI_bt, nn_and, nn_or, nn_xor, nn_shr, nn_1shl, nn_31, il_p, il_n, it_p, it_n, ie_p, ie_n, ie_b, ie_b1, ie_m, ie_mm, it_m, it_m0, il_m0, bI_rZ, Option.bind_some, bd2_some, Nat.add_zero, Nat.zero_add, if_true, if_false, Bool.false_eq_true, eq_self, hI_R, hJ_R, ng_t, ng_e, dg, e2]
      · rw [decide_eq_false (hd_n (by decide)), bI_f] at dg
        rw [decide_eq_true (show (10 :: D).head? = some 10 from rfl), bI_t] at dg2
        have iw := iw_18 t'
        simp (disch := first | assumption | omega | decide | ((repeat first | apply lyI | apply lyJ | apply lywI | apply lywJ | apply csI | apply csJ | apply cswI | apply cswJ); assumption)) only [f_X12_conditions_b43, f_X12_conditions_j67, SM, LI, ↓li_m1, nI_add, pk_mul, nn_sub, nn_m1, nn_div, nn_rem, nn_nz, nn_mod, nJ_l, lN_add, lN_mul, nn_tb1, nI_bt, nn_and, nn_or, nn_xor, nn_shr, nn_1shl, nn_31, il_p, il_n, it_p, it_n, ie_p, ie_n, ie_b, ie_b1, ie_m, ie_mm, it_m, it_m0, il_m0, bI_rZ, Option.bind_some, bd2_some, Nat.add_zero, Nat.zero_add, if_true, if_false, Bool.false_eq_true, eq_self, hI_R, hJ_R, ng_t, ng_e, dg, iw, dg2, e2]
    show ORq k0 T n P ((((whileL (F' + 1) (fun q : aH => f_X12_conditions_b43 113 (iwI T n i) q) k).bind fun h15 => f_X12_conditions_j74 h15 113 (iwI T n i)).bind (wlK (whileL F1 (fun q : Int32 × aH => f_X12_conditions_b31 113 q.1 q.2)))).bind fin31) r
    rw [wl_l e]
    exact g k' rs' F' F1 F3 (by first | omega | (simp only [List.length_cons] at *; omega)) (by first | omega | (simp only [List.length_cons] at *; omega)) (by first | omega | (simp only [List.length_cons] at *; omega))
  · intro k rs F F1 F3 hF hF1 hF3
    obtain ⟨F', rfl⟩ := ex_s hF
    obtain ⟨r1, r2, ⟨r3, r4, r5⟩, zz, dd, r8, r9, r10⟩ := id rs
    have kl := r2.1
    have dg := r_doing kl dd r4 r9 (x := 11) (by decide)
    have dg2 := r_doing kl dd r4 r9 (x := 10) (by decide)
    rw [decide_eq_false h11, bI_f] at dg
    rw [decide_eq_false h10, bI_f] at dg2
    have iw := iw_18 t
    have e : f_X12_conditions_b43 113 (iwI T n i) k = some (.inr k) := by simp (disch := first | assumption | omega | decide | ((repeat first | apply lyI | apply lyJ | apply lywI | apply lywJ | apply csI | apply csJ | apply cswI | apply cswJ); assumption)) only [f_X12_conditions_b43, SM, LI, ↓li_m1, nI_add, pk_mul, nn_sub, nn_m1, nn_div, nn_rem, nn_nz, nn_mod, nJ_l, lN_add, lN_mul, nn_tb1, nI_bt, nn_and, nn_or, nn_xor, nn_shr, nn_1shl, nn_31, il_p, il_n, it_p, it_n, ie_p, ie_n, ie_b, ie_b1, ie_m, ie_mm, it_m, it_m0, il_m0, bI_rZ, Option.bind_some, bd2_some, Nat.add_zero, Nat.zero_add, if_true, if_false, Bool.false_eq_true, eq_self, hI_R, hJ_R, ng_t, ng_e, dg, iw, dg2]
    obtain ⟨k4, e4, rs4⟩ := g_op rs d50 (x := 10) (Or.inl rfl)
    show ORq k0 T n P ((((whileL (F' + 1) (fun q : aH => f_X12_conditions_b43 113 (iwI T n i) q) k).bind fun h15 => f_X12_conditions_j74 h15 113 (iwI T n i)).bind (wlK (whileL F1 (fun q : Int32 × aH => f_X12_conditions_b31 113 q.1 q.2)))).bind fin31) r
    rw [wl_r e]
    show ORq k0 T n P (((f_X12_conditions_j74 k 113 (iwI T n i)).bind (wlK (whileL F1 (fun q : Int32 × aH => f_X12_conditions_b31 113 q.1 q.2)))).bind fin31) r
    rw [iw, e4, aft_j]
    exact g k4 rs4 wN F1 F3 (by simp only [List.length_cons]; rw [wN_e]; omega) (by first | omega | (simp only [List.length_cons] at *; omega)) (by first | omega | (simp only [List.length_cons] at *; omega))
  · intro k rs F F1 F3 hF hF1 hF3
    obtain ⟨F', rfl⟩ := ex_s hF
    obtain ⟨r1, r2, ⟨r3, r4, r5⟩, zz, dd, r8, r9, r10⟩ := id rs
    have kl := r2.1
    have dg := r_doing kl dd r4 r9 (x := 11) (by decide)
    rw [decide_eq_false h11, bI_f] at dg
    have iw := iw_19 t
    have e : f_X12_conditions_b43 113 (iwI T n i) k = some (.inr k) := by simp (disch := first | assumption | omega | decide | ((repeat first | apply lyI | apply lyJ | apply lywI | apply lywJ | apply csI | apply csJ | apply cswI | apply cswJ); assumption)) only [f_X12_conditions_b43, SM, LI, ↓li_m1, nI_add, pk_mul, nn_sub, nn_m1, nn_div, nn_rem, nn_nz, nn_mod, nJ_l, lN_add, lN_mul, nn_tb1, nI_bt, nn_and, nn_or, nn_xor, nn_shr, nn_1shl, nn_31, il_p, il_n, it_p, it_n, ie_p, ie_n, ie_b, ie_b1, ie_m, ie_mm, it_m, it_m0, il_m0, bI_rZ, Option.bind_some, bd2_some, Nat.add_zero, Nat.zero_add, if_true, if_false, Bool.false_eq_true, eq_self, hI_R, hJ_R, ng_t, ng_e, dg, iw]
    obtain ⟨k4, e4, rs4⟩ := g_op rs d50 (x := 11) (Or.inr rfl)
    show ORq k0 T n P ((((whileL (F' + 1) (fun q : aH => f_X12_conditions_b43 113 (iwI T n i) q) k).bind fun h15 => f_X12_conditions_j74 h15 113 (iwI T n i)).bind (wlK (whileL F1 (fun q : Int32 × aH => f_X12_conditions_b31 113 q.1 q.2)))).bind fin31) r
    rw [wl_r e]
    show ORq k0 T n P (((f_X12_conditions_j74 k 113 (iwI T n i)).bind (wlK (whileL F1 (fun q : Int32 × aH => f_X12_conditions_b31 113 q.1 q.2)))).bind fin31) r
    rw [iw, e4, aft_j]
    exact g k4 rs4 wN F1 F3 (by simp only [List.length_cons]; rw [wN_e]; omega) (by first | omega | (simp only [List.length_cons] at *; omega)) (by first | omega | (simp only [List.length_cons] at *; omega))
  · intro k rs F F1 F3 hF hF1 hF3
    obtain ⟨F', rfl⟩ := ex_s hF
    obtain ⟨r1, r2, ⟨r3, r4, r5⟩, zz, dd, r8, r9, r10⟩ := id rs
    have kl := r2.1
    have hd : (op :: D).length = D.length + 1 := rfl
    rw [hd] at r4 r9
    obtain ⟨k', e2, rs'⟩ := r_joins rs hop
    have e : f_X12_conditions_b115 113 k = some (.inl k') := by simp (disch := first | assumption | omega | decide | ((repeat first | apply lyI | apply lyJ | apply lywI | apply lywJ | apply csI | apply csJ | apply cswI | apply cswJ); assumption)) only [f_X12_conditions_b115, SM, LI, ↓li_m1, nI_add, pk_mul, nn_sub, nn_m1, nn_div, nn_rem, nn_nz, nn_mod, nJ_l, lN_add, lN_mul, nn_tb1, nI_bt, nn_and, nn_or, nn_xor, nn_shr, nn_1shl, nn_31, il_p, il_n, it_p, it_n, ie_p, ie_n, ie_b, ie_b1, ie_m, ie_mm, it_m, it_m0, il_m0, bI_rZ, Option.bind_some, bd2_some, Nat.add_zero, Nat.zero_add, if_true, if_false, Bool.false_eq_true, eq_self, hI_R, hJ_R, ng_t, ng_e, r4, e2]
    show ORq k0 T n P ((whileL (F' + 1) (fun q : aH => f_X12_conditions_b115 113 q) k).bind fun h21 => some ((1 : Int32), h21)) r
    rw [wl_l e]
    exact g k' rs' F' F1 F3 (by first | omega | (simp only [List.length_cons] at *; omega)) (by first | omega | (simp only [List.length_cons] at *; omega)) (by first | omega | (simp only [List.length_cons] at *; omega))
  · intro k rs F F1 F3 hF hF1 hF3
    obtain ⟨F', rfl⟩ := ex_s hF
    obtain ⟨r1, r2, ⟨r3, r4, r5⟩, zz, dd, r8, r9, r10⟩ := id rs
    have kl := r2.1
    have r4' : k.2.1 113 26 = nI 0 := r4
    have e : f_X12_conditions_b115 113 k = some (.inr k) := by simp (disch := first | assumption | omega | decide | ((repeat first | apply lyI | apply lyJ | apply lywI | apply lywJ | apply csI | apply csJ | apply cswI | apply cswJ); assumption)) only [f_X12_conditions_b115, SM, LI, ↓li_m1, nI_add, pk_mul, nn_sub, nn_m1, nn_div, nn_rem, nn_nz, nn_mod, nJ_l, lN_add, lN_mul, nn_tb1, nI_bt, nn_and, nn_or, nn_xor, nn_shr, nn_1shl, nn_31, il_p, il_n, it_p, it_n, ie_p, ie_n, ie_b, ie_b1, ie_m, ie_mm, it_m, it_m0, il_m0, bI_rZ, Option.bind_some, bd2_some, Nat.add_zero, Nat.zero_add, if_true, if_false, Bool.false_eq_true, eq_self, hI_R, hJ_R, ng_t, ng_e, r4']
    rw [hr]
    refine or_d rs ?_
    show (whileL (F' + 1) (fun q : aH => f_X12_conditions_b115 113 q) k).bind (fun h21 => some ((1 : Int32), h21)) = _
    rw [wl_r e]
    rfl
/-- the reference's conditions -/
theorem r_cond {k : aH} {T : Nat → Nat} {n i m : Nat} (rc : RC k T n i) (hm : m ≤ 900) (ht : ∀ i, i ≤ m → 2 ≤ tcI T n i → i < m) (hi : i ≤ m) {A C : Nat → Nat} {V : Nat → List Nat} {P : Nat → Bool} (ak : ATn k A) (wf : WF A) (nr : NRe k 176 C V) (nv : NV C V) (c1 : C 1 = A 1) (hP : ∀ w, P w = true → w < A 2) : ORq k T n P (f_X12_conditions k 113) (pEi T n (pOn T n A C V 8 0) i) := by
  have kl := rc.1
  have b := b_all (clo_ref ak wf nr nv c1 hP (pEi T n (pOn T n A C V 8 0) i)) hm ht hi rfl
  let k3 := hI (hI (hI k 113 25 (nI 0)) 113 26 (nI 0)) 113 27 (nI 0)
  have f3 : FR k k3 [] [] [] [25, 26, 27] := ((fr_1 (by decide)).tr (fr_1 (by decide))).tr (fr_1 (by decide))
  have rs : RSt k k3 T n i P [] [] 0 := by
    refine ⟨f3.mono (by decide) (by decide) (by decide) (by decide), rc_fr f3 (by decide) (by decide) rc, ⟨?_, ?_, rI_eq⟩, trivial, trivial, by decide, by decide, by decide⟩
    · show (hI (hI (hI k 113 25 (nI 0)) 113 26 (nI 0)) 113 27 (nI 0)).2.1 113 25 = _
      rw [rI_nk (by decide), rI_nk (by decide), rI_eq]
      rfl
    · show (hI (hI (hI k 113 25 (nI 0)) 113 26 (nI 0)) 113 27 (nI 0)).2.1 113 26 = _
      rw [rI_nk (by decide), rI_eq]
      rfl
  have l3 : LAY k3 := kl
  have e : f_X12_conditions k 113 = aftQ wN (f_X12_aOne k3 113) := by
    have p1 : pI k 12 113 25 (0 : Int32) = some (hI k 113 25 (nI 0)) := by simp (disch := first | assumption | omega | decide | ((repeat first | apply lyI | apply lyJ | apply lywI | apply lywJ | apply csI | apply csJ | apply cswI | apply cswJ); assumption)) only [SM, LI, ↓li_m1, nI_add, pk_mul, nn_sub, nn_m1, nn_div, nn_rem, nn_nz, nn_mod, nJ_l, lN_add, lN_mul, nn_tb1, nI_bt, nn_and, nn_or, nn_xor, nn_shr, nn_1shl, nn_31, il_p, il_n, it_p, it_n, ie_p, ie_n, ie_b, ie_b1, ie_m, ie_mm, it_m, it_m0, il_m0, bI_rZ, Option.bind_some, bd2_some, Nat.add_zero, Nat.zero_add, if_true, if_false, Bool.false_eq_true, eq_self, hI_R, hJ_R, ng_t, ng_e]
    have p2 : pI (hI k 113 25 (nI 0)) 12 113 26 (0 : Int32) = some (hI (hI k 113 25 (nI 0)) 113 26 (nI 0)) := by simp (disch := first | assumption | omega | decide | ((repeat first | apply lyI | apply lyJ | apply lywI | apply lywJ | apply csI | apply csJ | apply cswI | apply cswJ); assumption)) only [SM, LI, ↓li_m1, nI_add, pk_mul, nn_sub, nn_m1, nn_div, nn_rem, nn_nz, nn_mod, nJ_l, lN_add, lN_mul, nn_tb1, nI_bt, nn_and, nn_or, nn_xor, nn_shr, nn_1shl, nn_31, il_p, il_n, it_p, it_n, ie_p, ie_n, ie_b, ie_b1, ie_m, ie_mm, it_m, it_m0, il_m0, bI_rZ, Option.bind_some, bd2_some, Nat.add_zero, Nat.zero_add, if_true, if_false, Bool.false_eq_true, eq_self, hI_R, hJ_R, ng_t, ng_e]
    have p3 : pI (hI (hI k 113 25 (nI 0)) 113 26 (nI 0)) 12 113 27 (0 : Int32) = some k3 := by
      show _ = some (hI (hI (hI k 113 25 (nI 0)) 113 26 (nI 0)) 113 27 (nI 0))
      simp (disch := first | assumption | omega | decide | ((repeat first | apply lyI | apply lyJ | apply lywI | apply lywJ | apply csI | apply csJ | apply cswI | apply cswJ); assumption)) only [SM, LI, ↓li_m1, nI_add, pk_mul, nn_sub, nn_m1, nn_div, nn_rem, nn_nz, nn_mod, nJ_l, lN_add, lN_mul, nn_tb1, nI_bt, nn_and, nn_or, nn_xor, nn_shr, nn_1shl, nn_31, il_p, il_n, it_p, it_n, ie_p, ie_n, ie_b, ie_b1, ie_m, ie_mm, it_m, it_m0, il_m0, bI_rZ, Option.bind_some, bd2_some, Nat.add_zero, Nat.zero_add, if_true, if_false, Bool.false_eq_true, eq_self, hI_R, hJ_R, ng_t, ng_e]
    have p4 : ck k3 12 113 = some () := (SM k3 l3).1
    show ((pI k 12 113 25 (0 : Int32)).bind fun h1 => (pI h1 12 113 26 (0 : Int32)).bind fun h2 => (pI h2 12 113 27 (0 : Int32)).bind fun h3 => (ck h3 12 113).bind fun _ => aftQ wN (f_X12_aOne h3 113)) = _
    rw [p1, Option.bind_some, p2, Option.bind_some, p3, Option.bind_some, p4, Option.bind_some]
  rw [e]
  exact b k3 rs wN wN wN (by rw [wN_e]; show _ + 4 * 0 + _ < _; omega) (by rw [wN_e]; show _ + 4 * 0 + _ < _; omega) (by rw [wN_e]; show _ + 4 * 0 + _ < _; omega)
