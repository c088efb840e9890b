/-! ===== names that were told ===== -/
theorem nc_fr {h h' : aH} {c : Nat} {C : Nat → Nat} {V : Nat → List Nat} {cI cJ f0 f1 : List Nat} (hf : FR h h' cI cJ f0 f1) (hs : CS h c) (h1 : c + 1 ∉ cI) (h2 : c + 2 ∉ cJ) (h3 : c + 3 ∉ cI) (h4 : c + 4 ∉ cI) (nc : NCl h c C V) : NCl h' c C V := by
  have c0 := hs.1
  unfold NCl
  rw [hf.I (c + 1) h1 (by omega) (by omega), hf.J (c + 2) h2, hf.I (c + 3) h3 (by omega) (by omega), hf.I (c + 4) h4 (by omega) (by omega)]
  exact nc
theorem nr_fr {k k' : aH} {o : Nat} {C : Nat → Nat} {V : Nat → List Nat} {cI cJ f0 f1 : List Nat} (hf : FR k k' cI cJ f0 f1) (h1 : 116 ∉ cJ) (nr : NRe k o C V) : NRe k' o C V := by
  unfold NRe
  rw [hf.J 116 h1]
  exact nr
/-- a name of a thing of sort s stands at i, and which -/
def nmO (T : Nat → Nat) (n i : Nat) (C : Nat → Nat) (V : Nat → List Nat) (s : Nat) : Option Nat := if tcI T n i = 6 then lkN C V s (wdI T n i) else none
def nmF (T : Nat → Nat) (n i : Nat) : Nat := fkN T n i (if tcI T n i = 6 then 3 else 2)
theorem x_seek {h : aH} {T : Nat → Nat} {n m i c : Nat} (lc : LC h T n m i) (hs : CS h c) {C : Nat → Nat} {V : Nat → List Nat} (nc : NCl h c C V) (nv : NV C V) {s : Nat} (s4 : s < 4) : (∀ a, nmO T n i C V s = some a → f_X4_seekName h 4 (c + 1) (nI s) = some (nI a, h)) ∧ (nmO T n i C V s = none → ∃ h', f_X4_seekName h 4 (c + 1) (nI s) = some (m1, h') ∧ FR h h' [4] [4] [] [] ∧ FL h' (nmF T n i) (frI T n i)) := by
  obtain ⟨hl, lx, ⟨e9, e10, e11, e12, e13, e6⟩, hi⟩ := id lc
  have tl := tc_le (T := T) (n := n) (i := i)
  obtain ⟨b0, b1, b2, b3⟩ := nv_le4 nv
  by_cases h6 : tcI T n i = 6
  · have r := x_numOf hs nc nv (wd_vd h6) s4
    have e11' := e11 h6
    have e10' : h.2.1 4 10 = nI 6 := by rw [e10, h6]
    have eo : nmO T n i C V s = lkN C V s (wdI T n i) := if_pos h6
    have ef : nmF T n i = fkN T n i 3 := by unfold nmF; rw [if_pos h6]
    rw [eo, ef]
    constructor
    · intro a ha
      have ab : a < 2147483648 := by
        have := (lk_ex ha).1
        rcases lt4 s4 with rfl | rfl | rfl | rfl <;> omega
      rw [ha] at r
      have r' : f_X7_numberOf h (c + 1) (lN (c5 (wdI T n i))) (nI s) = some (nI a) := r
      simp (disch := first | assumption | omega | decide | ((repeat first | apply lyI | apply lyJ | apply lywI | apply lywJ | apply csI | apply csJ | apply cswI | apply cswJ); assumption)) only [f_X4_seekName, SX, SNM, LI, ↓li_m1, nI_add, pk_mul, nn_sub, nn_m1, nn_div, nn_rem, nn_nz, nn_mod, nJ_l, lN_add, lN_mul, nn_tb1, nI_bt, nn_and, nn_or, nn_xor, nn_shr, nn_1shl, nn_31, il_p, il_n, it_p, it_n, ie_p, ie_n, ie_b, ie_b1, ie_m, ie_mm, it_m, it_m0, il_m0, bI_rZ, Option.bind_some, bd2_some, Nat.add_zero, Nat.zero_add, if_true, if_false, Bool.false_eq_true, eq_self, hI_R, hJ_R, ng_t, ng_e, e10', e11', r']
    · intro hn
      rw [hn] at r
      have r' : f_X7_numberOf h (c + 1) (lN (c5 (wdI T n i))) (nI s) = some m1 := r
      obtain ⟨h', q, f, l⟩ := x_ref lc 3
      exact ⟨h', by simp (disch := first | assumption | omega | decide | ((repeat first | apply lyI | apply lyJ | apply lywI | apply lywJ | apply csI | apply csJ | apply cswI | apply cswJ); assumption)) only [f_X4_seekName, SX, SNM, LI, ↓li_m1, nI_add, pk_mul, nn_sub, nn_m1, nn_div, nn_rem, nn_nz, nn_mod, nJ_l, lN_add, lN_mul, nn_tb1, nI_bt, nn_and, nn_or, nn_xor, nn_shr, nn_1shl, nn_31, il_p, il_n, it_p, it_n, ie_p, ie_n, ie_b, ie_b1, ie_m, ie_mm, it_m, it_m0, il_m0, bI_rZ, Option.bind_some, bd2_some, Nat.add_zero, Nat.zero_add, if_true, if_false, Bool.false_eq_true, eq_self, hI_R, hJ_R, ng_t, ng_e, e10', e11', r', q], f, l⟩
  · have eo : nmO T n i C V s = none := if_neg h6
    have ef : nmF T n i = fkN T n i 2 := by unfold nmF; rw [if_neg h6]
    rw [eo, ef]
    obtain ⟨h', q, f, l⟩ := x_ref lc 2
    exact ⟨fun a ha => (by cases ha), fun _ => ⟨h', by simp (disch := first | assumption | omega | decide | ((repeat first | apply lyI | apply lyJ | apply lywI | apply lywJ | apply csI | apply csJ | apply cswI | apply cswJ); assumption)) only [f_X4_seekName, SX, SNM, LI, ↓li_m1, nI_add, pk_mul, nn_sub, nn_m1, nn_div, nn_rem, nn_nz, nn_mod, nJ_l, lN_add, lN_mul, nn_tb1, nI_bt, nn_and, nn_or, nn_xor, nn_shr, nn_1shl, nn_31, il_p, il_n, it_p, it_n, ie_p, ie_n, ie_b, ie_b1, ie_m, ie_mm, it_m, it_m0, il_m0, bI_rZ, Option.bind_some, bd2_some, Nat.add_zero, Nat.zero_add, if_true, if_false, Bool.false_eq_true, eq_self, hI_R, hJ_R, ng_t, ng_e, e10, q], f, l⟩⟩
theorem nm_6 {T : Nat → Nat} {n i : Nat} {C : Nat → Nat} {V : Nat → List Nat} {s a : Nat} (h : nmO T n i C V s = some a) : tcI T n i = 6 ∧ a < C s := by
  unfold nmO at h
  by_cases h6 : tcI T n i = 6
  · rw [if_pos h6] at h
    exact ⟨h6, (lk_ex h).1⟩
  · rw [if_neg h6] at h
    cases h
theorem x_tkName {h : aH} {T : Nat → Nat} {n m i c : Nat} (lc : LC h T n m i) (hs : CS h c) {C : Nat → Nat} {V : Nat → List Nat} (nc : NCl h c C V) (nv : NV C V) {s : Nat} (s4 : s < 4) : (∀ a, nmO T n i C V s = some a → ∃ h', f_X4_takeName h 4 (c + 1) (nI s) = some (nI a, h') ∧ FR h h' [4] [4] [] [] ∧ LC h' T n m (i + 1)) ∧ (nmO T n i C V s = none → ∃ h', f_X4_takeName h 4 (c + 1) (nI s) = some (m1, h') ∧ FR h h' [4] [4] [] [] ∧ FL h' (nmF T n i) (frI T n i)) := by
  obtain ⟨hl, lx, ⟨e9, e10, e11, e12, e13, e6⟩, hi⟩ := id lc
  obtain ⟨b0, b1, b2, b3⟩ := nv_le4 nv
  obtain ⟨y1, y2⟩ := x_seek lc hs nc nv s4
  constructor
  · intro a ha
    have q := y1 a ha
    have ab : a < 2147483648 := by
      have := (nm_6 ha).2
      rcases lt4 s4 with rfl | rfl | rfl | rfl <;> omega
    obtain ⟨h', r, f, l⟩ := x_adv lc (lc_lt lc (by rw [(nm_6 ha).1]; decide))
    exact ⟨h', by simp (disch := first | assumption | omega | decide | ((repeat first | apply lyI | apply lyJ | apply lywI | apply lywJ | apply csI | apply csJ | apply cswI | apply cswJ); assumption)) only [f_X4_takeName, SX, LI, ↓li_m1, nI_add, pk_mul, nn_sub, nn_m1, nn_div, nn_rem, nn_nz, nn_mod, nJ_l, lN_add, lN_mul, nn_tb1, nI_bt, nn_and, nn_or, nn_xor, nn_shr, nn_1shl, nn_31, il_p, il_n, it_p, it_n, ie_p, ie_n, ie_b, ie_b1, ie_m, ie_mm, it_m, it_m0, il_m0, bI_rZ, Option.bind_some, bd2_some, Nat.add_zero, Nat.zero_add, if_true, if_false, Bool.false_eq_true, eq_self, hI_R, hJ_R, ng_t, ng_e, q, r], f, l⟩
  · intro hn
    obtain ⟨h', q, f, l⟩ := y2 hn
    exact ⟨h', by simp (disch := first | assumption | omega | decide | ((repeat first | apply lyI | apply lyJ | apply lywI | apply lywJ | apply csI | apply csJ | apply cswI | apply cswJ); assumption)) only [f_X4_takeName, SX, LI, ↓li_m1, nI_add, pk_mul, nn_sub, nn_m1, nn_div, nn_rem, nn_nz, nn_mod, nJ_l, lN_add, lN_mul, nn_tb1, nI_bt, nn_and, nn_or, nn_xor, nn_shr, nn_1shl, nn_31, il_p, il_n, it_p, it_n, ie_p, ie_n, ie_b, ie_b1, ie_m, ie_mm, it_m, it_m0, il_m0, bI_rZ, Option.bind_some, bd2_some, Nat.add_zero, Nat.zero_add, if_true, if_false, Bool.false_eq_true, eq_self, hI_R, hJ_R, ng_t, ng_e, q], f, l⟩
theorem nb_b {C : Nat → Nat} {V : Nat → List Nat} (nv : NV C V) {s : Nat} (s4 : s < 4) : nbN s + C s ≤ 44 ∧ C s ≤ 24 := by
  have := nv.1 s s4
  rcases lt4 s4 with rfl | rfl | rfl | rfl <;> simp [nbN, nmN] at * <;> omega
theorem r_old {k : aH} {T : Nat → Nat} {n i o : Nat} (rc : RC k T n i) {C : Nat → Nat} {V : Nat → List Nat} (nr : NRe k o C V) (nv : NV C V) {s : Nat} (s4 : s < 4) (ho : o ≤ 176) : (∀ a, nmO T n i C V s = some a → f_X12_oldName k 113 (nI o) (nI (nbN s)) (nI (C s)) = some (nI 1, hI k 113 21 (nI a))) ∧ (nmO T n i C V s = none → ∃ k', f_X12_oldName k 113 (nI o) (nI (nbN s)) (nI (C s)) = some (nI 0, k') ∧ FR k k' [] [] [] F13 ∧ RLx k' (nmF T n i) (frI T n i)) := by
  have kl := rc.1
  have sn := r_isN kl rc.2.1
  have rz : rZ (nI 0) = some (nI 0) := rfl
  obtain ⟨nb1, nb2⟩ := nb_b nv s4
  by_cases h6 : tcI T n i = 6
  · have r := r_find kl rc.2.1 h6 nr nv s4 ho
    rw [decide_eq_true h6] at sn
    have eo : nmO T n i C V s = lkN C V s (wdI T n i) := if_pos h6
    have ef : nmF T n i = fkN T n i 3 := by unfold nmF; rw [if_pos h6]
    rw [eo, ef]
    constructor
    · intro a ha
      have ab : a < 2147483648 := by
        have := (lk_ex ha).1
        omega
      rw [ha] at r
      have r' : f_X12_findHere k 113 (nI (o + nbN s)) (nI (C s)) = some (nI a) := r
      simp (disch := first | assumption | omega | decide | ((repeat first | apply lyI | apply lyJ | apply lywI | apply lywJ | apply csI | apply csJ | apply cswI | apply cswJ); assumption)) only [f_X12_oldName, SM, rI_eq, rI_ne, rI_nk, rJ_eq, rJ_ne, rJ_nk, rI_J, rJ_I, LI, ↓li_m1, nI_add, pk_mul, nn_sub, nn_m1, nn_div, nn_rem, nn_nz, nn_mod, nJ_l, lN_add, lN_mul, nn_tb1, nI_bt, nn_and, nn_or, nn_xor, nn_shr, nn_1shl, nn_31, il_p, il_n, it_p, it_n, ie_p, ie_n, ie_b, ie_b1, ie_m, ie_mm, it_m, it_m0, il_m0, bI_rZ, Option.bind_some, bd2_some, Nat.add_zero, Nat.zero_add, if_true, if_false, Bool.false_eq_true, eq_self, hI_R, hJ_R, ng_t, ng_e, sn, bI_t, r']
    · intro hn
      rw [hn] at r
      have r' : f_X12_findHere k 113 (nI (o + nbN s)) (nI (C s)) = some m1 := r
      have f0 : FR k (hI k 113 21 m1) [] [] [] F13 := fr_1 (by decide)
      have rc' : RC (hI k 113 21 m1) T n i := rc_fr (f1 := [21]) (cI := []) (cJ := []) (f0 := []) (fr_1 (by decide)) (by decide) (by decide) rc
      obtain ⟨k', q, f, l⟩ := r_fail rc' 3
      exact ⟨k', by simp (disch := first | assumption | omega | decide | ((repeat first | apply lyI | apply lyJ | apply lywI | apply lywJ | apply csI | apply csJ | apply cswI | apply cswJ); assumption)) only [f_X12_oldName, SM, rI_eq, rI_ne, rI_nk, rJ_eq, rJ_ne, rJ_nk, rI_J, rJ_I, LI, ↓li_m1, nI_add, pk_mul, nn_sub, nn_m1, nn_div, nn_rem, nn_nz, nn_mod, nJ_l, lN_add, lN_mul, nn_tb1, nI_bt, nn_and, nn_or, nn_xor, nn_shr, nn_1shl, nn_31, il_p, il_n, it_p, it_n, ie_p, ie_n, ie_b, ie_b1, ie_m, ie_mm, it_m, it_m0, il_m0, bI_rZ, Option.bind_some, bd2_some, Nat.add_zero, Nat.zero_add, if_true, if_false, Bool.false_eq_true, eq_self, hI_R, hJ_R, ng_t, ng_e, sn, bI_t, r', q, rz], f0.tr f, l⟩
  · have eo : nmO T n i C V s = none := if_neg h6
    have ef : nmF T n i = fkN T n i 2 := by unfold nmF; rw [if_neg h6]
    rw [decide_eq_false h6] at sn
    rw [eo, ef]
    obtain ⟨k', q, f, l⟩ := r_fail rc 2
    exact ⟨fun a ha => (by cases ha), fun _ => ⟨k', by simp (disch := first | assumption | omega | decide | ((repeat first | apply lyI | apply lyJ | apply lywI | apply lywJ | apply csI | apply csJ | apply cswI | apply cswJ); assumption)) only [f_X12_oldName, SM, LI, ↓li_m1, nI_add, pk_mul, nn_sub, nn_m1, nn_div, nn_rem, nn_nz, nn_mod, nJ_l, lN_add, lN_mul, nn_tb1, nI_bt, nn_and, nn_or, nn_xor, nn_shr, nn_1shl, nn_31, il_p, il_n, it_p, it_n, ie_p, ie_n, ie_b, ie_b1, ie_m, ie_mm, it_m, it_m0, il_m0, bI_rZ, Option.bind_some, bd2_some, Nat.add_zero, Nat.zero_add, if_true, if_false, Bool.false_eq_true, eq_self, hI_R, hJ_R, ng_t, ng_e, sn, bI_f, q, rz], f, l⟩⟩
theorem r_nameTo {k : aH} {T : Nat → Nat} {n i to : Nat} (rc : RC k T n i) {C : Nat → Nat} {V : Nat → List Nat} (nr : NRe k 0 C V) (nv : NV C V) {s : Nat} (s4 : s < 4) (hto : to < 2000) : (∀ a, nmO T n i C V s = some a → ∃ k', f_X12_name k 113 (nI to) (nI (nbN s)) (nI (C s)) = some (nI 1, k') ∧ FR (hI k 114 to (nI a)) k' [] [] [] F13 ∧ RC k' T n (i + 1)) ∧ (nmO T n i C V s = none → ∃ k', f_X12_name k 113 (nI to) (nI (nbN s)) (nI (C s)) = some (nI 0, k') ∧ FR k k' [] [] [] F13 ∧ RLx k' (nmF T n i) (frI T n i)) := by
  have kl := rc.1
  obtain ⟨y1, y2⟩ := r_old rc nr nv s4 (by decide)
  constructor
  · intro a ha
    have q := y1 a ha
    have f0 : FR k (hI (hI k 113 21 (nI a)) 114 to (nI a)) [114] [] [] [21] := (fr_1 (by decide)).tr (FR.hI (by decide) (by decide) (by decide))
    obtain ⟨k', r, f, l⟩ := r_go (rc_fr f0 (by decide) (by decide) rc)
    have sw : hI (hI k 113 21 (nI a)) 114 to (nI a) = hI (hI k 114 to (nI a)) 113 21 (nI a) := by
      rw [hI_w (a := 113) (h := hI k 114 to (nI a)), hI_w (a := 113) (h := k), show (hI k 114 to (nI a)).2.1 113 = k.2.1 113 from rfl, wI_hI_ne (by decide)]
    refine ⟨k', by simp (disch := first | assumption | omega | decide | ((repeat first | apply lyI | apply lyJ | apply lywI | apply lywJ | apply csI | apply csJ | apply cswI | apply cswJ); assumption)) only [f_X12_name, SM, rI_eq, rI_ne, rI_nk, rJ_eq, rJ_ne, rJ_nk, rI_J, rJ_I, LI, ↓li_m1, nI_add, pk_mul, nn_sub, nn_m1, nn_div, nn_rem, nn_nz, nn_mod, nJ_l, lN_add, lN_mul, nn_tb1, nI_bt, nn_and, nn_or, nn_xor, nn_shr, nn_1shl, nn_31, il_p, il_n, it_p, it_n, ie_p, ie_n, ie_b, ie_b1, ie_m, ie_mm, it_m, it_m0, il_m0, bI_rZ, Option.bind_some, bd2_some, Nat.add_zero, Nat.zero_add, if_true, if_false, Bool.false_eq_true, eq_self, hI_R, hJ_R, ng_t, ng_e, q, r], ?_, l⟩
    rw [sw] at f
    exact FR.tr (fr_1 (by decide)) f
  · intro hn
    obtain ⟨k', q, f, l⟩ := y2 hn
    exact ⟨k', by simp (disch := first | assumption | omega | decide | ((repeat first | apply lyI | apply lyJ | apply lywI | apply lywJ | apply csI | apply csJ | apply cswI | apply cswJ); assumption)) only [f_X12_name, SM, LI, ↓li_m1, nI_add, pk_mul, nn_sub, nn_m1, nn_div, nn_rem, nn_nz, nn_mod, nJ_l, lN_add, lN_mul, nn_tb1, nI_bt, nn_and, nn_or, nn_xor, nn_shr, nn_1shl, nn_31, il_p, il_n, it_p, it_n, ie_p, ie_n, ie_b, ie_b1, ie_m, ie_mm, it_m, it_m0, il_m0, bI_rZ, Option.bind_some, bd2_some, Nat.add_zero, Nat.zero_add, if_true, if_false, Bool.false_eq_true, eq_self, hI_R, hJ_R, ng_t, ng_e, q], f, l⟩
