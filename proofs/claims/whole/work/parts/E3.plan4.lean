/-! ===== plans: the class's other steps ===== -/
def PSx (h g : aH) (p s : Nat) : Prop := SB h g p s ∧ g.2.1 p = h.2.1 p ∧ g.2.1 (p + 5) = h.2.1 (p + 5)
theorem ps_fr {h g g' : aH} {p s : Nat} (hp : 5 < p) (hp2 : p < 100) (f : FR g g' [4] [4] [] []) (ps : PSx h g p s) : PSx h g' p s := by
  have k : ∀ y, y ≠ 4 → y ≠ 0 → y ≠ 113 → g'.2.1 y = g.2.1 y := fun y h1 h2 h3 => f.I y (by simpa using h1) h2 h3
  refine ⟨fun x hx => ?_, (k p (by omega) (by omega) (by omega)).trans ps.2.1, (k (p + 5) (by omega) (by omega) (by omega)).trans ps.2.2⟩
  rw [k (p + 1) (by omega) (by omega) (by omega), k (p + 2) (by omega) (by omega) (by omega), k (p + 3) (by omega) (by omega) (by omega), k (p + 4) (by omega) (by omega) (by omega)]
  exact ps.1 x hx
theorem ps_w {h g : aH} {p s j : Nat} {v : Int32} (h1 : 1 ≤ j) (h4 : j ≤ 4) (ps : PSx h g p s) : PSx h (hI g (p + j) s v) p s := by
  refine ⟨fun x hx => ?_, ?_, ?_⟩
  · have : ∀ y, (hI g (p + j) s v).2.1 y x = g.2.1 y x := fun y => by
      rw [rI_hI, if_neg (by omega)]
    rw [this, this, this, this]
    exact ps.1 x hx
  · rw [← ps.2.1]
    funext y
    rw [rI_ne (by omega)]
  · rw [← ps.2.2]
    funext y
    rw [rI_ne (by omega)]
/-- the step is whole but for its sign -/
theorem x_fin14 {h0 h g : aH} {c : Nat} {T : Nat → Nat} {n m i j : Nat} {C : Nat → Nat} {V : Nat → List Nat} {K : Nat → Nat → Nat} {N dp : Nat} {op : Nat → Nat} (mc : MCp h0 h 14 c T n m i C V K N dp op) (pv : PVp C K N dp op) (s30 : sgK K N < 30) (fg : FR h0 g [4, 14, 15, 16, 17, 18, 19] [4] [] []) (lg : LC g T n m j) (ps : PSx h g 14 (sgK K N)) {a b d : Nat} (ha : a ≠ 26) (w : g.2.1 15 (sgK K N) = nI (wkN a)) (f1 : a ≠ 19 → a ≠ 20 → g.2.1 16 (sgK K N) = nI b) (f2 : a = 20 → g.2.1 16 (sgK K N) = nI d) (f3 : a = 17 → g.2.1 17 (sgK K N) = nI d) (cs : CS g c ∧ NCl g c C V) : OCp h0 14 c T n m C V N (f_X8_readStep_j103 g 14 4) (smS T n j (rwK K N a b d 0) dp op) := by
  obtain ⟨hf, lc, hs, nc, pc, po⟩ := mc
  have e1 := rw_sg1 (K := K) (N := N) (a := a) (b := b) (c := d) (d := 0) ha
  exact x_semi14 fg lg cs.1 cs.2 (by omega) (pc_up pc pv ps.1 ha w f1 f2 f3) (po_up po pv (by rw [ps.2.1]) (by rw [ps.2.1]) ps.2.2) (by rw [ps.2.1, e1, Nat.add_sub_cancel]; exact pc.1) (by omega)
theorem x_best14 {h0 h : aH} {c : Nat} {T : Nat → Nat} {n m i : Nat} {C : Nat → Nat} {V : Nat → List Nat} {K : Nat → Nat → Nat} {N dp : Nat} {op : Nat → Nat} (mc : MCp h0 h 14 c T n m i C V K N dp op) (pv : PVp C K N dp op) (nv : NV C V) (t : tcI T n i = 26) (s30 : sgK K N < 30) : OCp h0 14 c T n m C V N (f_X8_readStep h 14 4 (c + 1)) (pStep T n i C V K N dp op) := by
  obtain ⟨g, ⟨fg, lg, sg, ng, sb, gp, g5, gw⟩, hd⟩ := x_head14 mc pv (by omega) (by omega) s30 (by omega)
  have pc := mc.2.2.2.2.1
  have ll := lg.1
  have g6 : g.2.1 14 6 = nI (sgK K N) := by rw [gp]; exact pc.1
  have ep : pStep T n i C V K N dp op = (match nmO T n (i + 1) C V 3 with
    | none => .inl (nmF T n (i + 1), frI T n (i + 1))
    | some a => smS T n (i + 2) (rwK K N 18 a 0 0) dp op) := by
    unfold pStep
    rw [if_neg (by omega), if_neg (by omega), if_neg (by omega), if_neg (by omega), if_pos t]
    rfl
  rw [hd, ep, if_neg (d_ne (by rw [t]; decide) (by decide) (by omega))]
  rw [t] at gw
  have a1 : f_X8_readNames g 14 4 (c + 1) = f_X8_readNames_j22 g 14 4 (c + 1) (nI 26) := by simp (disch := first | assumption | omega | decide | ((repeat first | apply lyI | apply lyJ | apply lywI | apply lywJ | apply csI | apply csJ | apply cswI | apply cswJ); assumption)) only [f_X8_readNames, SP14, LI, ↓li_m1, nI_add, pk_mul, nn_sub, nn_m1, nn_div, nn_rem, nn_nz, nn_mod, nJ_l, lN_add, lN_mul, nn_tb1, nI_bt, nn_and, nn_or, nn_xor, nn_shr, nn_1shl, nn_31, il_p, il_n, it_p, it_n, ie_p, ie_n, ie_b, ie_b1, ie_m, ie_mm, it_m, it_m0, il_m0, bI_rZ, Option.bind_some, bd2_some, Nat.add_zero, Nat.zero_add, if_true, if_false, Bool.false_eq_true, eq_self, hI_R, hJ_R, ng_t, ng_e, g6, gw]
  obtain ⟨y1, y2⟩ := x_tkName lg sg ng nv (s := 3) (by decide)
  cases ha : nmO T n (i + 1) C V 3 with
  | none =>
    obtain ⟨h', r, f, l⟩ := y2 ha
    have l' := l.1
    have w12 : (hI h' 16 (sgK K N) m1).2.1 4 12 = nI (nmF T n (i + 1)) := l.2.1
    have w0 : ¬ nI (nmF T n (i + 1)) = nI 0 := d_ne (by unfold nmF fkN; (repeat' split) <;> decide) (by decide) (by unfold nmF fkN; (repeat' split) <;> decide)
    have f2 : FR h' (hI h' 16 (sgK K N) m1) [16] [] [] [] := FR.hI (by decide) (by decide) (by decide)
    refine ⟨hI h' 16 (sgK K N) m1, ?_, (fg.tr (f.mono (by decide) (by decide) (by decide) (by decide))).tr (f2.mono (by decide) (by decide) (by decide) (by decide)), fl_fr f2 (by decide) l⟩
    have b1 : f_X8_readNames_j22 g 14 4 (c + 1) (nI 26) = f_X8_readNames_j61 (hI h' 16 (sgK K N) m1) 14 4 (c + 1) (nI 26) := by simp (disch := first | assumption | omega | decide | ((repeat first | apply lyI | apply lyJ | apply lywI | apply lywJ | apply csI | apply csJ | apply cswI | apply cswJ); assumption)) only [f_X8_readNames_j22, SP14, SX, LI, ↓li_m1, nI_add, pk_mul, nn_sub, nn_m1, nn_div, nn_rem, nn_nz, nn_mod, nJ_l, lN_add, lN_mul, nn_tb1, nI_bt, nn_and, nn_or, nn_xor, nn_shr, nn_1shl, nn_31, il_p, il_n, it_p, it_n, ie_p, ie_n, ie_b, ie_b1, ie_m, ie_mm, it_m, it_m0, il_m0, bI_rZ, Option.bind_some, bd2_some, Nat.add_zero, Nat.zero_add, if_true, if_false, Bool.false_eq_true, eq_self, hI_R, hJ_R, ng_t, ng_e, g6, r]
    have b2 : f_X8_readNames_j61 (hI h' 16 (sgK K N) m1) 14 4 (c + 1) (nI 26) = some (nI 0, hI h' 16 (sgK K N) m1) := by simp (disch := first | assumption | omega | decide | ((repeat first | apply lyI | apply lyJ | apply lywI | apply lywJ | apply csI | apply csJ | apply cswI | apply cswJ); assumption)) only [f_X8_readNames_j61, f_X8_readNames_j89, SX, LI, ↓li_m1, nI_add, pk_mul, nn_sub, nn_m1, nn_div, nn_rem, nn_nz, nn_mod, nJ_l, lN_add, lN_mul, nn_tb1, nI_bt, nn_and, nn_or, nn_xor, nn_shr, nn_1shl, nn_31, il_p, il_n, it_p, it_n, ie_p, ie_n, ie_b, ie_b1, ie_m, ie_mm, it_m, it_m0, il_m0, bI_rZ, Option.bind_some, bd2_some, Nat.add_zero, Nat.zero_add, if_true, if_false, Bool.false_eq_true, eq_self, hI_R, hJ_R, ng_t, ng_e, w12, if_neg w0]
    rw [a1, b1, b2, bd2_some, if_pos rfl]
  | some a =>
    obtain ⟨h', r, f, l⟩ := y1 a ha
    have l' := l.1
    have f2 : FR h' (hI h' 16 (sgK K N) (nI a)) [16] [] [] [] := FR.hI (by decide) (by decide) (by decide)
    have lc2 := lc_fr f2 (by decide) (by decide) l
    have ff : FR g (hI h' 16 (sgK K N) (nI a)) [4, 14, 15, 16, 17, 18, 19] [4] [] [] := (f.mono (by decide) (by decide) (by decide) (by decide)).tr (f2.mono (by decide) (by decide) (by decide) (by decide))
    have z12 : (hI h' 16 (sgK K N) (nI a)).2.1 4 12 = nI 0 := lc2.2.2.1.2.2.2.1
    have b1 : f_X8_readNames_j22 g 14 4 (c + 1) (nI 26) = f_X8_readNames_j61 (hI h' 16 (sgK K N) (nI a)) 14 4 (c + 1) (nI 26) := by simp (disch := first | assumption | omega | decide | ((repeat first | apply lyI | apply lyJ | apply lywI | apply lywJ | apply csI | apply csJ | apply cswI | apply cswJ); assumption)) only [f_X8_readNames_j22, SP14, SX, LI, ↓li_m1, nI_add, pk_mul, nn_sub, nn_m1, nn_div, nn_rem, nn_nz, nn_mod, nJ_l, lN_add, lN_mul, nn_tb1, nI_bt, nn_and, nn_or, nn_xor, nn_shr, nn_1shl, nn_31, il_p, il_n, it_p, it_n, ie_p, ie_n, ie_b, ie_b1, ie_m, ie_mm, it_m, it_m0, il_m0, bI_rZ, Option.bind_some, bd2_some, Nat.add_zero, Nat.zero_add, if_true, if_false, Bool.false_eq_true, eq_self, hI_R, hJ_R, ng_t, ng_e, g6, r]
    have b2 : f_X8_readNames_j61 (hI h' 16 (sgK K N) (nI a)) 14 4 (c + 1) (nI 26) = some (nI 1, hI h' 16 (sgK K N) (nI a)) := by simp (disch := first | assumption | omega | decide | ((repeat first | apply lyI | apply lyJ | apply lywI | apply lywJ | apply csI | apply csJ | apply cswI | apply cswJ); assumption)) only [f_X8_readNames_j61, f_X8_readNames_j89, SX, LI, ↓li_m1, nI_add, pk_mul, nn_sub, nn_m1, nn_div, nn_rem, nn_nz, nn_mod, nJ_l, lN_add, lN_mul, nn_tb1, nI_bt, nn_and, nn_or, nn_xor, nn_shr, nn_1shl, nn_31, il_p, il_n, it_p, it_n, ie_p, ie_n, ie_b, ie_b1, ie_m, ie_mm, it_m, it_m0, il_m0, bI_rZ, Option.bind_some, bd2_some, Nat.add_zero, Nat.zero_add, if_true, if_false, Bool.false_eq_true, eq_self, hI_R, hJ_R, ng_t, ng_e, z12]
    rw [a1, b1, b2, bd2_some, if_neg (by decide)]
    exact x_fin14 mc pv s30 (fg.tr ff) lc2 (ps_w (p := 14) (j := 2) (by decide) (by decide) (ps_fr (by decide) (by decide) f ⟨sb, gp, g5⟩)) (by decide) (by
      show h'.2.1 15 _ = _
      rw [f.I 15 (by decide) (by decide) (by decide)]
      exact gw) (fun _ _ => rI_eq) (fun e => absurd e (by decide)) (fun e => absurd e (by decide)) (cp_st14 ff sg ng)
theorem x_rule14 {h0 h : aH} {c : Nat} {T : Nat → Nat} {n m i : Nat} {C : Nat → Nat} {V : Nat → List Nat} {K : Nat → Nat → Nat} {N dp : Nat} {op : Nat → Nat} (mc : MCp h0 h 14 c T n m i C V K N dp op) (pv : PVp C K N dp op) (nv : NV C V) (t : tcI T n i = 28) (s30 : sgK K N < 30) : OCp h0 14 c T n m C V N (f_X8_readStep h 14 4 (c + 1)) (pStep T n i C V K N dp op) := by
  obtain ⟨g, ⟨fg, lg, sg, ng, sb, gp, g5, gw⟩, hd⟩ := x_head14 mc pv (by omega) (by omega) s30 (by omega)
  have pc := mc.2.2.2.2.1
  have ll := lg.1
  have g6 : g.2.1 14 6 = nI (sgK K N) := by rw [gp]; exact pc.1
  have ep : pStep T n i C V K N dp op = (match nmO T n (i + 1) C V 2 with
    | none => .inl (nmF T n (i + 1), frI T n (i + 1))
    | some b => smS T n (i + 2) (rwK K N 20 0 b 0) dp op) := by
    unfold pStep
    rw [if_neg (by omega), if_neg (by omega), if_neg (by omega), if_neg (by omega), if_neg (by omega), if_neg (by omega), if_pos t]
    rfl
  rw [hd, ep, if_neg (d_ne (by rw [t]; decide) (by decide) (by omega))]
  rw [t] at gw
  obtain ⟨y1, y2⟩ := x_tkName lg sg ng nv (s := 2) (by decide)
  cases ha : nmO T n (i + 1) C V 2 with
  | none =>
    obtain ⟨h', r, f, l⟩ := y2 ha
    have l' := l.1
    have w12 : (hI h' 16 (sgK K N) m1).2.1 4 12 = nI (nmF T n (i + 1)) := l.2.1
    have w0 : ¬ nI (nmF T n (i + 1)) = nI 0 := d_ne (by unfold nmF fkN; (repeat' split) <;> decide) (by decide) (by unfold nmF fkN; (repeat' split) <;> decide)
    have f2 : FR h' (hI h' 16 (sgK K N) m1) [16] [] [] [] := FR.hI (by decide) (by decide) (by decide)
    refine ⟨hI h' 16 (sgK K N) m1, ?_, (fg.tr (f.mono (by decide) (by decide) (by decide) (by decide))).tr (f2.mono (by decide) (by decide) (by decide) (by decide)), fl_fr f2 (by decide) l⟩
    have b1 : f_X8_readNames g 14 4 (c + 1) = f_X8_readNames_j61 (hI h' 16 (sgK K N) m1) 14 4 (c + 1) (nI 28) := by simp (disch := first | assumption | omega | decide | ((repeat first | apply lyI | apply lyJ | apply lywI | apply lywJ | apply csI | apply csJ | apply cswI | apply cswJ); assumption)) only [f_X8_readNames, SP14, SX, LI, ↓li_m1, nI_add, pk_mul, nn_sub, nn_m1, nn_div, nn_rem, nn_nz, nn_mod, nJ_l, lN_add, lN_mul, nn_tb1, nI_bt, nn_and, nn_or, nn_xor, nn_shr, nn_1shl, nn_31, il_p, il_n, it_p, it_n, ie_p, ie_n, ie_b, ie_b1, ie_m, ie_mm, it_m, it_m0, il_m0, bI_rZ, Option.bind_some, bd2_some, Nat.add_zero, Nat.zero_add, if_true, if_false, Bool.false_eq_true, eq_self, hI_R, hJ_R, ng_t, ng_e, g6, gw, r]
    have b2 : f_X8_readNames_j61 (hI h' 16 (sgK K N) m1) 14 4 (c + 1) (nI 28) = some (nI 0, hI h' 16 (sgK K N) m1) := by simp (disch := first | assumption | omega | decide | ((repeat first | apply lyI | apply lyJ | apply lywI | apply lywJ | apply csI | apply csJ | apply cswI | apply cswJ); assumption)) only [f_X8_readNames_j61, f_X8_readNames_j89, SX, LI, ↓li_m1, nI_add, pk_mul, nn_sub, nn_m1, nn_div, nn_rem, nn_nz, nn_mod, nJ_l, lN_add, lN_mul, nn_tb1, nI_bt, nn_and, nn_or, nn_xor, nn_shr, nn_1shl, nn_31, il_p, il_n, it_p, it_n, ie_p, ie_n, ie_b, ie_b1, ie_m, ie_mm, it_m, it_m0, il_m0, bI_rZ, Option.bind_some, bd2_some, Nat.add_zero, Nat.zero_add, if_true, if_false, Bool.false_eq_true, eq_self, hI_R, hJ_R, ng_t, ng_e, w12, if_neg w0]
    rw [b1, b2, bd2_some, if_pos rfl]
  | some a =>
    obtain ⟨h', r, f, l⟩ := y1 a ha
    have l' := l.1
    have f2 : FR h' (hI h' 16 (sgK K N) (nI a)) [16] [] [] [] := FR.hI (by decide) (by decide) (by decide)
    have lc2 := lc_fr f2 (by decide) (by decide) l
    have ff : FR g (hI h' 16 (sgK K N) (nI a)) [4, 14, 15, 16, 17, 18, 19] [4] [] [] := (f.mono (by decide) (by decide) (by decide) (by decide)).tr (f2.mono (by decide) (by decide) (by decide) (by decide))
    have z12 : (hI h' 16 (sgK K N) (nI a)).2.1 4 12 = nI 0 := lc2.2.2.1.2.2.2.1
    have b1 : f_X8_readNames g 14 4 (c + 1) = f_X8_readNames_j61 (hI h' 16 (sgK K N) (nI a)) 14 4 (c + 1) (nI 28) := by simp (disch := first | assumption | omega | decide | ((repeat first | apply lyI | apply lyJ | apply lywI | apply lywJ | apply csI | apply csJ | apply cswI | apply cswJ); assumption)) only [f_X8_readNames, SP14, SX, LI, ↓li_m1, nI_add, pk_mul, nn_sub, nn_m1, nn_div, nn_rem, nn_nz, nn_mod, nJ_l, lN_add, lN_mul, nn_tb1, nI_bt, nn_and, nn_or, nn_xor, nn_shr, nn_1shl, nn_31, il_p, il_n, it_p, it_n, ie_p, ie_n, ie_b, ie_b1, ie_m, ie_mm, it_m, it_m0, il_m0, bI_rZ, Option.bind_some, bd2_some, Nat.add_zero, Nat.zero_add, if_true, if_false, Bool.false_eq_true, eq_self, hI_R, hJ_R, ng_t, ng_e, g6, gw, r]
    have b2 : f_X8_readNames_j61 (hI h' 16 (sgK K N) (nI a)) 14 4 (c + 1) (nI 28) = some (nI 1, hI h' 16 (sgK K N) (nI a)) := by simp (disch := first | assumption | omega | decide | ((repeat first | apply lyI | apply lyJ | apply lywI | apply lywJ | apply csI | apply csJ | apply cswI | apply cswJ); assumption)) only [f_X8_readNames_j61, f_X8_readNames_j89, SX, LI, ↓li_m1, nI_add, pk_mul, nn_sub, nn_m1, nn_div, nn_rem, nn_nz, nn_mod, nJ_l, lN_add, lN_mul, nn_tb1, nI_bt, nn_and, nn_or, nn_xor, nn_shr, nn_1shl, nn_31, il_p, il_n, it_p, it_n, ie_p, ie_n, ie_b, ie_b1, ie_m, ie_mm, it_m, it_m0, il_m0, bI_rZ, Option.bind_some, bd2_some, Nat.add_zero, Nat.zero_add, if_true, if_false, Bool.false_eq_true, eq_self, hI_R, hJ_R, ng_t, ng_e, z12]
    rw [b1, b2, bd2_some, if_neg (by decide)]
    exact x_fin14 mc pv s30 (fg.tr ff) lc2 (ps_w (p := 14) (j := 2) (by decide) (by decide) (ps_fr (by decide) (by decide) f ⟨sb, gp, g5⟩)) (by decide) (by
      show h'.2.1 15 _ = _
      rw [f.I 15 (by decide) (by decide) (by decide)]
      exact gw) (fun _ e => absurd rfl e) (fun _ => rI_eq) (fun e => absurd e (by decide)) (cp_st14 ff sg ng)
theorem x_next14 {h0 h : aH} {c : Nat} {T : Nat → Nat} {n m i : Nat} {C : Nat → Nat} {V : Nat → List Nat} {K : Nat → Nat → Nat} {N dp : Nat} {op : Nat → Nat} (mc : MCp h0 h 14 c T n m i C V K N dp op) (pv : PVp C K N dp op) (t : tcI T n i = 27) (s30 : sgK K N < 30) : OCp h0 14 c T n m C V N (f_X8_readStep h 14 4 (c + 1)) (pStep T n i C V K N dp op) := by
  obtain ⟨g, ⟨fg, lg, sg, ng, sb, gp, g5, gw⟩, hd⟩ := x_head14 mc pv (by omega) (by omega) s30 (by omega)
  have pc := mc.2.2.2.2.1
  have ll := lg.1
  have g6 : g.2.1 14 6 = nI (sgK K N) := by rw [gp]; exact pc.1
  have z12 : g.2.1 4 12 = nI 0 := lg.2.2.1.2.2.2.1
  have ep : pStep T n i C V K N dp op = smS T n (i + 1) (rwK K N 19 0 0 0) dp op := by
    unfold pStep
    rw [if_neg (by omega), if_neg (by omega), if_neg (by omega), if_neg (by omega), if_neg (by omega), if_pos t]
  rw [hd, ep, if_neg (d_ne (by rw [t]; decide) (by decide) (by omega))]
  rw [t] at gw
  have b1 : f_X8_readNames g 14 4 (c + 1) = f_X8_readNames_j61 g 14 4 (c + 1) (nI 27) := by simp (disch := first | assumption | omega | decide | ((repeat first | apply lyI | apply lyJ | apply lywI | apply lywJ | apply csI | apply csJ | apply cswI | apply cswJ); assumption)) only [f_X8_readNames, SP14, SX, LI, ↓li_m1, nI_add, pk_mul, nn_sub, nn_m1, nn_div, nn_rem, nn_nz, nn_mod, nJ_l, lN_add, lN_mul, nn_tb1, nI_bt, nn_and, nn_or, nn_xor, nn_shr, nn_1shl, nn_31, il_p, il_n, it_p, it_n, ie_p, ie_n, ie_b, ie_b1, ie_m, ie_mm, it_m, it_m0, il_m0, bI_rZ, Option.bind_some, bd2_some, Nat.add_zero, Nat.zero_add, if_true, if_false, Bool.false_eq_true, eq_self, hI_R, hJ_R, ng_t, ng_e, g6, gw]
  have b2 : f_X8_readNames_j61 g 14 4 (c + 1) (nI 27) = some (nI 1, g) := by simp (disch := first | assumption | omega | decide | ((repeat first | apply lyI | apply lyJ | apply lywI | apply lywJ | apply csI | apply csJ | apply cswI | apply cswJ); assumption)) only [f_X8_readNames_j61, f_X8_readNames_j89, SX, LI, ↓li_m1, nI_add, pk_mul, nn_sub, nn_m1, nn_div, nn_rem, nn_nz, nn_mod, nJ_l, lN_add, lN_mul, nn_tb1, nI_bt, nn_and, nn_or, nn_xor, nn_shr, nn_1shl, nn_31, il_p, il_n, it_p, it_n, ie_p, ie_n, ie_b, ie_b1, ie_m, ie_mm, it_m, it_m0, il_m0, bI_rZ, Option.bind_some, bd2_some, Nat.add_zero, Nat.zero_add, if_true, if_false, Bool.false_eq_true, eq_self, hI_R, hJ_R, ng_t, ng_e, z12]
  rw [b1, b2, bd2_some, if_neg (by decide)]
  exact x_fin14 mc pv s30 fg lg ⟨sb, gp, g5⟩ (by decide) gw (fun e => absurd rfl e) (fun e => absurd e (by decide)) (fun e => absurd e (by decide)) ⟨sg, ng⟩
/-- the step is whole but for its sign -/
theorem x_fin20 {h0 h g : aH} {c : Nat} {T : Nat → Nat} {n m i j : Nat} {C : Nat → Nat} {V : Nat → List Nat} {K : Nat → Nat → Nat} {N dp : Nat} {op : Nat → Nat} (mc : MCp h0 h 20 c T n m i C V K N dp op) (pv : PVp C K N dp op) (s30 : sgK K N < 30) (fg : FR h0 g [4, 20, 21, 22, 23, 24, 25] [4] [] []) (lg : LC g T n m j) (ps : PSx h g 20 (sgK K N)) {a b d : Nat} (ha : a ≠ 26) (w : g.2.1 21 (sgK K N) = nI (wkN a)) (f1 : a ≠ 19 → a ≠ 20 → g.2.1 22 (sgK K N) = nI b) (f2 : a = 20 → g.2.1 22 (sgK K N) = nI d) (f3 : a = 17 → g.2.1 23 (sgK K N) = nI d) (cs : CS g c ∧ NCl g c C V) : OCp h0 20 c T n m C V N (f_X8_readStep_j103 g 20 4) (smS T n j (rwK K N a b d 0) dp op) := by
  obtain ⟨hf, lc, hs, nc, pc, po⟩ := mc
  have e1 := rw_sg1 (K := K) (N := N) (a := a) (b := b) (c := d) (d := 0) ha
  exact x_semi20 fg lg cs.1 cs.2 (by omega) (pc_up pc pv ps.1 ha w f1 f2 f3) (po_up po pv (by rw [ps.2.1]) (by rw [ps.2.1]) ps.2.2) (by rw [ps.2.1, e1, Nat.add_sub_cancel]; exact pc.1) (by omega)
theorem x_best20 {h0 h : aH} {c : Nat} {T : Nat → Nat} {n m i : Nat} {C : Nat → Nat} {V : Nat → List Nat} {K : Nat → Nat → Nat} {N dp : Nat} {op : Nat → Nat} (mc : MCp h0 h 20 c T n m i C V K N dp op) (pv : PVp C K N dp op) (nv : NV C V) (t : tcI T n i = 26) (s30 : sgK K N < 30) : OCp h0 20 c T n m C V N (f_X8_readStep h 20 4 (c + 1)) (pStep T n i C V K N dp op) := by
  obtain ⟨g, ⟨fg, lg, sg, ng, sb, gp, g5, gw⟩, hd⟩ := x_head20 mc pv (by omega) (by omega) s30 (by omega)
  have pc := mc.2.2.2.2.1
  have ll := lg.1
  have g6 : g.2.1 20 6 = nI (sgK K N) := by rw [gp]; exact pc.1
  have ep : pStep T n i C V K N dp op = (match nmO T n (i + 1) C V 3 with
    | none => .inl (nmF T n (i + 1), frI T n (i + 1))
    | some a => smS T n (i + 2) (rwK K N 18 a 0 0) dp op) := by
    unfold pStep
    rw [if_neg (by omega), if_neg (by omega), if_neg (by omega), if_neg (by omega), if_pos t]
    rfl
  rw [hd, ep, if_neg (d_ne (by rw [t]; decide) (by decide) (by omega))]
  rw [t] at gw
  have a1 : f_X8_readNames g 20 4 (c + 1) = f_X8_readNames_j22 g 20 4 (c + 1) (nI 26) := by simp (disch := first | assumption | omega | decide | ((repeat first | apply lyI | apply lyJ | apply lywI | apply lywJ | apply csI | apply csJ | apply cswI | apply cswJ); assumption)) only [f_X8_readNames, SP20, LI, ↓li_m1, nI_add, pk_mul, nn_sub, nn_m1, nn_div, nn_rem, nn_nz, nn_mod, nJ_l, lN_add, lN_mul, nn_tb1, nI_bt, nn_and, nn_or, nn_xor, nn_shr, nn_1shl, nn_31, il_p, il_n, it_p, it_n, ie_p, ie_n, ie_b, ie_b1, ie_m, ie_mm, it_m, it_m0, il_m0, bI_rZ, Option.bind_some, bd2_some, Nat.add_zero, Nat.zero_add, if_true, if_false, Bool.false_eq_true, eq_self, hI_R, hJ_R, ng_t, ng_e, g6, gw]
  obtain ⟨y1, y2⟩ := x_tkName lg sg ng nv (s := 3) (by decide)
  cases ha : nmO T n (i + 1) C V 3 with
  | none =>
    obtain ⟨h', r, f, l⟩ := y2 ha
    have l' := l.1
    have w12 : (hI h' 22 (sgK K N) m1).2.1 4 12 = nI (nmF T n (i + 1)) := l.2.1
    have w0 : ¬ nI (nmF T n (i + 1)) = nI 0 := d_ne (by unfold nmF fkN; (repeat' split) <;> decide) (by decide) (by unfold nmF fkN; (repeat' split) <;> decide)
    have f2 : FR h' (hI h' 22 (sgK K N) m1) [22] [] [] [] := FR.hI (by decide) (by decide) (by decide)
    refine ⟨hI h' 22 (sgK K N) m1, ?_, (fg.tr (f.mono (by decide) (by decide) (by decide) (by decide))).tr (f2.mono (by decide) (by decide) (by decide) (by decide)), fl_fr f2 (by decide) l⟩
    have b1 : f_X8_readNames_j22 g 20 4 (c + 1) (nI 26) = f_X8_readNames_j61 (hI h' 22 (sgK K N) m1) 20 4 (c + 1) (nI 26) := by simp (disch := first | assumption | omega | decide | ((repeat first | apply lyI | apply lyJ | apply lywI | apply lywJ | apply csI | apply csJ | apply cswI | apply cswJ); assumption)) only [f_X8_readNames_j22, SP20, SX, LI, ↓li_m1, nI_add, pk_mul, nn_sub, nn_m1, nn_div, nn_rem, nn_nz, nn_mod, nJ_l, lN_add, lN_mul, nn_tb1, nI_bt, nn_and, nn_or, nn_xor, nn_shr, nn_1shl, nn_31, il_p, il_n, it_p, it_n, ie_p, ie_n, ie_b, ie_b1, ie_m, ie_mm, it_m, it_m0, il_m0, bI_rZ, Option.bind_some, bd2_some, Nat.add_zero, Nat.zero_add, if_true, if_false, Bool.false_eq_true, eq_self, hI_R, hJ_R, ng_t, ng_e, g6, r]
    have b2 : f_X8_readNames_j61 (hI h' 22 (sgK K N) m1) 20 4 (c + 1) (nI 26) = some (nI 0, hI h' 22 (sgK K N) m1) := by simp (disch := first | assumption | omega | decide | ((repeat first | apply lyI | apply lyJ | apply lywI | apply lywJ | apply csI | apply csJ | apply cswI | apply cswJ); assumption)) only [f_X8_readNames_j61, f_X8_readNames_j89, SX, LI, ↓li_m1, nI_add, pk_mul, nn_sub, nn_m1, nn_div, nn_rem, nn_nz, nn_mod, nJ_l, lN_add, lN_mul, nn_tb1, nI_bt, nn_and, nn_or, nn_xor, nn_shr, nn_1shl, nn_31, il_p, il_n, it_p, it_n, ie_p, ie_n, ie_b, ie_b1, ie_m, ie_mm, it_m, it_m0, il_m0, bI_rZ, Option.bind_some, bd2_some, Nat.add_zero, Nat.zero_add, if_true, if_false, Bool.false_eq_true, eq_self, hI_R, hJ_R, ng_t, ng_e, w12, if_neg w0]
    rw [a1, b1, b2, bd2_some, if_pos rfl]
  | some a =>
    obtain ⟨h', r, f, l⟩ := y1 a ha
    have l' := l.1
    have f2 : FR h' (hI h' 22 (sgK K N) (nI a)) [22] [] [] [] := FR.hI (by decide) (by decide) (by decide)
    have lc2 := lc_fr f2 (by decide) (by decide) l
    have ff : FR g (hI h' 22 (sgK K N) (nI a)) [4, 20, 21, 22, 23, 24, 25] [4] [] [] := (f.mono (by decide) (by decide) (by decide) (by decide)).tr (f2.mono (by decide) (by decide) (by decide) (by decide))
    have z12 : (hI h' 22 (sgK K N) (nI a)).2.1 4 12 = nI 0 := lc2.2.2.1.2.2.2.1
    have b1 : f_X8_readNames_j22 g 20 4 (c + 1) (nI 26) = f_X8_readNames_j61 (hI h' 22 (sgK K N) (nI a)) 20 4 (c + 1) (nI 26) := by simp (disch := first | assumption | omega | decide | ((repeat first | apply lyI | apply lyJ | apply lywI | apply lywJ | apply csI | apply csJ | apply cswI | apply cswJ); assumption)) only [f_X8_readNames_j22, SP20, SX, LI, ↓li_m1, nI_add, pk_mul, nn_sub, nn_m1, nn_div, nn_rem, nn_nz, nn_mod, nJ_l, lN_add, lN_mul, nn_tb1, nI_bt, nn_and, nn_or, nn_xor, nn_shr, nn_1shl, nn_31, il_p, il_n, it_p, it_n, ie_p, ie_n, ie_b, ie_b1, ie_m, ie_mm, it_m, it_m0, il_m0, bI_rZ, Option.bind_some, bd2_some, Nat.add_zero, Nat.zero_add, if_true, if_false, Bool.false_eq_true, eq_self, hI_R, hJ_R, ng_t, ng_e, g6, r]
    have b2 : f_X8_readNames_j61 (hI h' 22 (sgK K N) (nI a)) 20 4 (c + 1) (nI 26) = some (nI 1, hI h' 22 (sgK K N) (nI a)) := by simp (disch := first | assumption | omega | decide | ((repeat first | apply lyI | apply lyJ | apply lywI | apply lywJ | apply csI | apply csJ | apply cswI | apply cswJ); assumption)) only [f_X8_readNames_j61, f_X8_readNames_j89, SX, LI, ↓li_m1, nI_add, pk_mul, nn_sub, nn_m1, nn_div, nn_rem, nn_nz, nn_mod, nJ_l, lN_add, lN_mul, nn_tb1, nI_bt, nn_and, nn_or, nn_xor, nn_shr, nn_1shl, nn_31, il_p, il_n, it_p, it_n, ie_p, ie_n, ie_b, ie_b1, ie_m, ie_mm, it_m, it_m0, il_m0, bI_rZ, Option.bind_some, bd2_some, Nat.add_zero, Nat.zero_add, if_true, if_false, Bool.false_eq_true, eq_self, hI_R, hJ_R, ng_t, ng_e, z12]
    rw [a1, b1, b2, bd2_some, if_neg (by decide)]
    exact x_fin20 mc pv s30 (fg.tr ff) lc2 (ps_w (p := 20) (j := 2) (by decide) (by decide) (ps_fr (by decide) (by decide) f ⟨sb, gp, g5⟩)) (by decide) (by
      show h'.2.1 21 _ = _
      rw [f.I 21 (by decide) (by decide) (by decide)]
      exact gw) (fun _ _ => rI_eq) (fun e => absurd e (by decide)) (fun e => absurd e (by decide)) (cp_st20 ff sg ng)
theorem x_rule20 {h0 h : aH} {c : Nat} {T : Nat → Nat} {n m i : Nat} {C : Nat → Nat} {V : Nat → List Nat} {K : Nat → Nat → Nat} {N dp : Nat} {op : Nat → Nat} (mc : MCp h0 h 20 c T n m i C V K N dp op) (pv : PVp C K N dp op) (nv : NV C V) (t : tcI T n i = 28) (s30 : sgK K N < 30) : OCp h0 20 c T n m C V N (f_X8_readStep h 20 4 (c + 1)) (pStep T n i C V K N dp op) := by
  obtain ⟨g, ⟨fg, lg, sg, ng, sb, gp, g5, gw⟩, hd⟩ := x_head20 mc pv (by omega) (by omega) s30 (by omega)
  have pc := mc.2.2.2.2.1
  have ll := lg.1
  have g6 : g.2.1 20 6 = nI (sgK K N) := by rw [gp]; exact pc.1
  have ep : pStep T n i C V K N dp op = (match nmO T n (i + 1) C V 2 with
    | none => .inl (nmF T n (i + 1), frI T n (i + 1))
    | some b => smS T n (i + 2) (rwK K N 20 0 b 0) dp op) := by
    unfold pStep
    rw [if_neg (by omega), if_neg (by omega), if_neg (by omega), if_neg (by omega), if_neg (by omega), if_neg (by omega), if_pos t]
    rfl
  rw [hd, ep, if_neg (d_ne (by rw [t]; decide) (by decide) (by omega))]
  rw [t] at gw
  obtain ⟨y1, y2⟩ := x_tkName lg sg ng nv (s := 2) (by decide)
  cases ha : nmO T n (i + 1) C V 2 with
  | none =>
    obtain ⟨h', r, f, l⟩ := y2 ha
    have l' := l.1
    have w12 : (hI h' 22 (sgK K N) m1).2.1 4 12 = nI (nmF T n (i + 1)) := l.2.1
    have w0 : ¬ nI (nmF T n (i + 1)) = nI 0 := d_ne (by unfold nmF fkN; (repeat' split) <;> decide) (by decide) (by unfold nmF fkN; (repeat' split) <;> decide)
    have f2 : FR h' (hI h' 22 (sgK K N) m1) [22] [] [] [] := FR.hI (by decide) (by decide) (by decide)
    refine ⟨hI h' 22 (sgK K N) m1, ?_, (fg.tr (f.mono (by decide) (by decide) (by decide) (by decide))).tr (f2.mono (by decide) (by decide) (by decide) (by decide)), fl_fr f2 (by decide) l⟩
    have b1 : f_X8_readNames g 20 4 (c + 1) = f_X8_readNames_j61 (hI h' 22 (sgK K N) m1) 20 4 (c + 1) (nI 28) := by simp (disch := first | assumption | omega | decide | ((repeat first | apply lyI | apply lyJ | apply lywI | apply lywJ | apply csI | apply csJ | apply cswI | apply cswJ); assumption)) only [f_X8_readNames, SP20, SX, LI, ↓li_m1, nI_add, pk_mul, nn_sub, nn_m1, nn_div, nn_rem, nn_nz, nn_mod, nJ_l, lN_add, lN_mul, nn_tb1, nI_bt, nn_and, nn_or, nn_xor, nn_shr, nn_1shl, nn_31, il_p, il_n, it_p, it_n, ie_p, ie_n, ie_b, ie_b1, ie_m, ie_mm, it_m, it_m0, il_m0, bI_rZ, Option.bind_some, bd2_some, Nat.add_zero, Nat.zero_add, if_true, if_false, Bool.false_eq_true, eq_self, hI_R, hJ_R, ng_t, ng_e, g6, gw, r]
    have b2 : f_X8_readNames_j61 (hI h' 22 (sgK K N) m1) 20 4 (c + 1) (nI 28) = some (nI 0, hI h' 22 (sgK K N) m1) := by simp (disch := first | assumption | omega | decide | ((repeat first | apply lyI | apply lyJ | apply lywI | apply lywJ | apply csI | apply csJ | apply cswI | apply cswJ); assumption)) only [f_X8_readNames_j61, f_X8_readNames_j89, SX, LI, ↓li_m1, nI_add, pk_mul, nn_sub, nn_m1, nn_div, nn_rem, nn_nz, nn_mod, nJ_l, lN_add, lN_mul, nn_tb1, nI_bt, nn_and, nn_or, nn_xor, nn_shr, nn_1shl, nn_31, il_p, il_n, it_p, it_n, ie_p, ie_n, ie_b, ie_b1, ie_m, ie_mm, it_m, it_m0, il_m0, bI_rZ, Option.bind_some, bd2_some, Nat.add_zero, Nat.zero_add, if_true, if_false, Bool.false_eq_true, eq_self, hI_R, hJ_R, ng_t, ng_e, w12, if_neg w0]
    rw [b1, b2, bd2_some, if_pos rfl]
  | some a =>
    obtain ⟨h', r, f, l⟩ := y1 a ha
    have l' := l.1
    have f2 : FR h' (hI h' 22 (sgK K N) (nI a)) [22] [] [] [] := FR.hI (by decide) (by decide) (by decide)
    have lc2 := lc_fr f2 (by decide) (by decide) l
    have ff : FR g (hI h' 22 (sgK K N) (nI a)) [4, 20, 21, 22, 23, 24, 25] [4] [] [] := (f.mono (by decide) (by decide) (by decide) (by decide)).tr (f2.mono (by decide) (by decide) (by decide) (by decide))
    have z12 : (hI h' 22 (sgK K N) (nI a)).2.1 4 12 = nI 0 := lc2.2.2.1.2.2.2.1
    have b1 : f_X8_readNames g 20 4 (c + 1) = f_X8_readNames_j61 (hI h' 22 (sgK K N) (nI a)) 20 4 (c + 1) (nI 28) := by simp (disch := first | assumption | omega | decide | ((repeat first | apply lyI | apply lyJ | apply lywI | apply lywJ | apply csI | apply csJ | apply cswI | apply cswJ); assumption)) only [f_X8_readNames, SP20, SX, LI, ↓li_m1, nI_add, pk_mul, nn_sub, nn_m1, nn_div, nn_rem, nn_nz, nn_mod, nJ_l, lN_add, lN_mul, nn_tb1, nI_bt, nn_and, nn_or, nn_xor, nn_shr, nn_1shl, nn_31, il_p, il_n, it_p, it_n, ie_p, ie_n, ie_b, ie_b1, ie_m, ie_mm, it_m, it_m0, il_m0, bI_rZ, Option.bind_some, bd2_some, Nat.add_zero, Nat.zero_add, if_true, if_false, Bool.false_eq_true, eq_self, hI_R, hJ_R, ng_t, ng_e, g6, gw, r]
    have b2 : f_X8_readNames_j61 (hI h' 22 (sgK K N) (nI a)) 20 4 (c + 1) (nI 28) = some (nI 1, hI h' 22 (sgK K N) (nI a)) := by simp (disch := first | assumption | omega | decide | ((repeat first | apply lyI | apply lyJ | apply lywI | apply lywJ | apply csI | apply csJ | apply cswI | apply cswJ); assumption)) only [f_X8_readNames_j61, f_X8_readNames_j89, SX, LI, ↓li_m1, nI_add, pk_mul, nn_sub, nn_m1, nn_div, nn_rem, nn_nz, nn_mod, nJ_l, lN_add, lN_mul, nn_tb1, nI_bt, nn_and, nn_or, nn_xor, nn_shr, nn_1shl, nn_31, il_p, il_n, it_p, it_n, ie_p, ie_n, ie_b, ie_b1, ie_m, ie_mm, it_m, it_m0, il_m0, bI_rZ, Option.bind_some, bd2_some, Nat.add_zero, Nat.zero_add, if_true, if_false, Bool.false_eq_true, eq_self, hI_R, hJ_R, ng_t, ng_e, z12]
    rw [b1, b2, bd2_some, if_neg (by decide)]
    exact x_fin20 mc pv s30 (fg.tr ff) lc2 (ps_w (p := 20) (j := 2) (by decide) (by decide) (ps_fr (by decide) (by decide) f ⟨sb, gp, g5⟩)) (by decide) (by
      show h'.2.1 21 _ = _
      rw [f.I 21 (by decide) (by decide) (by decide)]
      exact gw) (fun _ e => absurd rfl e) (fun _ => rI_eq) (fun e => absurd e (by decide)) (cp_st20 ff sg ng)
theorem x_next20 {h0 h : aH} {c : Nat} {T : Nat → Nat} {n m i : Nat} {C : Nat → Nat} {V : Nat → List Nat} {K : Nat → Nat → Nat} {N dp : Nat} {op : Nat → Nat} (mc : MCp h0 h 20 c T n m i C V K N dp op) (pv : PVp C K N dp op) (t : tcI T n i = 27) (s30 : sgK K N < 30) : OCp h0 20 c T n m C V N (f_X8_readStep h 20 4 (c + 1)) (pStep T n i C V K N dp op) := by
  obtain ⟨g, ⟨fg, lg, sg, ng, sb, gp, g5, gw⟩, hd⟩ := x_head20 mc pv (by omega) (by omega) s30 (by omega)
  have pc := mc.2.2.2.2.1
  have ll := lg.1
  have g6 : g.2.1 20 6 = nI (sgK K N) := by rw [gp]; exact pc.1
  have z12 : g.2.1 4 12 = nI 0 := lg.2.2.1.2.2.2.1
  have ep : pStep T n i C V K N dp op = smS T n (i + 1) (rwK K N 19 0 0 0) dp op := by
    unfold pStep
    rw [if_neg (by omega), if_neg (by omega), if_neg (by omega), if_neg (by omega), if_neg (by omega), if_pos t]
  rw [hd, ep, if_neg (d_ne (by rw [t]; decide) (by decide) (by omega))]
  rw [t] at gw
  have b1 : f_X8_readNames g 20 4 (c + 1) = f_X8_readNames_j61 g 20 4 (c + 1) (nI 27) := by simp (disch := first | assumption | omega | decide | ((repeat first | apply lyI | apply lyJ | apply lywI | apply lywJ | apply csI | apply csJ | apply cswI | apply cswJ); assumption)) only [f_X8_readNames, SP20, SX, LI, ↓li_m1, nI_add, pk_mul, nn_sub, nn_m1, nn_div, nn_rem, nn_nz, nn_mod, nJ_l, lN_add, lN_mul, nn_tb1, nI_bt, nn_and, nn_or, nn_xor, nn_shr, nn_1shl, nn_31, il_p, il_n, it_p, it_n, ie_p, ie_n, ie_b, ie_b1, ie_m, ie_mm, it_m, it_m0, il_m0, bI_rZ, Option.bind_some, bd2_some, Nat.add_zero, Nat.zero_add, if_true, if_false, Bool.false_eq_true, eq_self, hI_R, hJ_R, ng_t, ng_e, g6, gw]
  have b2 : f_X8_readNames_j61 g 20 4 (c + 1) (nI 27) = some (nI 1, g) := by simp (disch := first | assumption | omega | decide | ((repeat first | apply lyI | apply lyJ | apply lywI | apply lywJ | apply csI | apply csJ | apply cswI | apply cswJ); assumption)) only [f_X8_readNames_j61, f_X8_readNames_j89, SX, LI, ↓li_m1, nI_add, pk_mul, nn_sub, nn_m1, nn_div, nn_rem, nn_nz, nn_mod, nJ_l, lN_add, lN_mul, nn_tb1, nI_bt, nn_and, nn_or, nn_xor, nn_shr, nn_1shl, nn_31, il_p, il_n, it_p, it_n, ie_p, ie_n, ie_b, ie_b1, ie_m, ie_mm, it_m, it_m0, il_m0, bI_rZ, Option.bind_some, bd2_some, Nat.add_zero, Nat.zero_add, if_true, if_false, Bool.false_eq_true, eq_self, hI_R, hJ_R, ng_t, ng_e, z12]
  rw [b1, b2, bd2_some, if_neg (by decide)]
  exact x_fin20 mc pv s30 fg lg ⟨sb, gp, g5⟩ (by decide) gw (fun e => absurd rfl e) (fun e => absurd e (by decide)) (fun e => absurd e (by decide)) ⟨sg, ng⟩
