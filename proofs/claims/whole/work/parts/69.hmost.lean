/-! ===== the hearing: most left behind, best ===== -/
theorem aN_K {h : aH} {t a n : Nat} (hk : kd h a = t) (hn : ln h a = n) (ht : 20 ≤ t ∧ t < 26) : aN h a = some (nI n) := by
  unfold aN
  rw [if_pos (by rw [hk]; exact ht), hn]
  rfl
theorem fill_I {h : aH} {a n : Nat} {x : Int32} (hk : kd h a = 20) (hn : ln h a = n) (hz : n < 100000) : f_J7_fill_53178 h a x = some (wI h a (setF (h.2.1 a) 0 n (fun _ => x))) := by
  have r := aN_K hk hn (by decide)
  have e : f_J7_fill_53178_l5 a x (nI n) (nI 0) h = some (wI h a (setF (h.2.1 a) 0 n (fun _ => x))) := by
    refine for0 (body := fun zz : Int32 × aH => f_J7_fill_53178_b5 a x (nI n) zz.1 zz.2) (fun j => (nI j, wI h a (setF (h.2.1 a) 0 j (fun _ => x)))) (n) (e := wI h a (setF (h.2.1 a) 0 n (fun _ => x))) (by rw [setF_0, wI_self]) (by omega) (fun j hj => ?_) ?_
    · have k2 : sI (wI h a (setF (h.2.1 a) 0 j (fun _ => x))) a (nI j) x = some (hI (wI h a (setF (h.2.1 a) 0 j (fun _ => x))) a j x) := sI_K hk hn (by omega) hj
      simp (disch := first | assumption | omega | decide | ((repeat first | apply lyI | apply lyJ | apply lywI | apply lywJ | apply csI | apply csJ | apply cswI | apply cswJ); assumption)) only [f_J7_fill_53178_b5, LI, ↓li_m1, nI_add, pk_mul, nn_sub, nn_m1, nn_div, nn_rem, nn_nz, nn_mod, nJ_l, lN_add, lN_mul, nn_tb1, nI_bt, nn_and, nn_or, nn_xor, nn_shr, nn_1shl, nn_31, il_p, il_n, it_p, it_n, ie_p, ie_n, ie_b, ie_b1, ie_m, ie_mm, it_m, it_m0, il_m0, bI_rZ, Option.bind_some, bd2_some, Nat.add_zero, Nat.zero_add, if_true, if_false, Bool.false_eq_true, eq_self, hI_R, hJ_R, k2]
      rw [hI_set, ← setF_s0]
    · simp (disch := first | assumption | omega | decide | ((repeat first | apply lyI | apply lyJ | apply lywI | apply lywJ | apply csI | apply csJ | apply cswI | apply cswJ); assumption)) only [f_J7_fill_53178_b5, LI, ↓li_m1, nI_add, pk_mul, nn_sub, nn_m1, nn_div, nn_rem, nn_nz, nn_mod, nJ_l, lN_add, lN_mul, nn_tb1, nI_bt, nn_and, nn_or, nn_xor, nn_shr, nn_1shl, nn_31, il_p, il_n, it_p, it_n, ie_p, ie_n, ie_b, ie_b1, ie_m, ie_mm, it_m, it_m0, il_m0, bI_rZ, Option.bind_some, bd2_some, Nat.add_zero, Nat.zero_add, if_true, if_false, Bool.false_eq_true, eq_self, hI_R, hJ_R]
  simp (disch := first | assumption | omega | decide | ((repeat first | apply lyI | apply lyJ | apply lywI | apply lywJ | apply csI | apply csJ | apply cswI | apply cswJ); assumption)) only [f_J7_fill_53178, LI, ↓li_m1, nI_add, pk_mul, nn_sub, nn_m1, nn_div, nn_rem, nn_nz, nn_mod, nJ_l, lN_add, lN_mul, nn_tb1, nI_bt, nn_and, nn_or, nn_xor, nn_shr, nn_1shl, nn_31, il_p, il_n, it_p, it_n, ie_p, ie_n, ie_b, ie_b1, ie_m, ie_mm, it_m, it_m0, il_m0, bI_rZ, Option.bind_some, bd2_some, Nat.add_zero, Nat.zero_add, if_true, if_false, Bool.false_eq_true, eq_self, hI_R, hJ_R, r, e]
theorem fill_JJ {h : aH} {a n : Nat} {x : Int64} (hk : kd h a = 21) (hn : ln h a = n) (hz : n < 100000) : f_J7_fill_d0a16 h a x = some (wJ h a (setF (h.2.2.1 a) 0 n (fun _ => x))) := by
  have r := aN_K hk hn (by decide)
  have e : f_J7_fill_d0a16_l6 a x (nI n) (nI 0) h = some (wJ h a (setF (h.2.2.1 a) 0 n (fun _ => x))) := by
    refine for0 (body := fun zz : Int32 × aH => f_J7_fill_d0a16_b6 a x (nI n) zz.1 zz.2) (fun j => (nI j, wJ h a (setF (h.2.2.1 a) 0 j (fun _ => x)))) (n) (e := wJ h a (setF (h.2.2.1 a) 0 n (fun _ => x))) (by rw [setF_0, wJ_self]) (by omega) (fun j hj => ?_) ?_
    · have k2 : sJ (wJ h a (setF (h.2.2.1 a) 0 j (fun _ => x))) a (nI j) x = some (hJ (wJ h a (setF (h.2.2.1 a) 0 j (fun _ => x))) a j x) := sJ_K hk hn (by omega) hj
      simp (disch := first | assumption | omega | decide | ((repeat first | apply lyI | apply lyJ | apply lywI | apply lywJ | apply csI | apply csJ | apply cswI | apply cswJ); assumption)) only [f_J7_fill_d0a16_b6, LI, ↓li_m1, nI_add, pk_mul, nn_sub, nn_m1, nn_div, nn_rem, nn_nz, nn_mod, nJ_l, lN_add, lN_mul, nn_tb1, nI_bt, nn_and, nn_or, nn_xor, nn_shr, nn_1shl, nn_31, il_p, il_n, it_p, it_n, ie_p, ie_n, ie_b, ie_b1, ie_m, ie_mm, it_m, it_m0, il_m0, bI_rZ, Option.bind_some, bd2_some, Nat.add_zero, Nat.zero_add, if_true, if_false, Bool.false_eq_true, eq_self, hI_R, hJ_R, k2]
      rw [hJ_set, ← setF_s0]
    · simp (disch := first | assumption | omega | decide | ((repeat first | apply lyI | apply lyJ | apply lywI | apply lywJ | apply csI | apply csJ | apply cswI | apply cswJ); assumption)) only [f_J7_fill_d0a16_b6, LI, ↓li_m1, nI_add, pk_mul, nn_sub, nn_m1, nn_div, nn_rem, nn_nz, nn_mod, nJ_l, lN_add, lN_mul, nn_tb1, nI_bt, nn_and, nn_or, nn_xor, nn_shr, nn_1shl, nn_31, il_p, il_n, it_p, it_n, ie_p, ie_n, ie_b, ie_b1, ie_m, ie_mm, it_m, it_m0, il_m0, bI_rZ, Option.bind_some, bd2_some, Nat.add_zero, Nat.zero_add, if_true, if_false, Bool.false_eq_true, eq_self, hI_R, hJ_R]
  simp (disch := first | assumption | omega | decide | ((repeat first | apply lyI | apply lyJ | apply lywI | apply lywJ | apply csI | apply csJ | apply cswI | apply cswJ); assumption)) only [f_J7_fill_d0a16, LI, ↓li_m1, nI_add, pk_mul, nn_sub, nn_m1, nn_div, nn_rem, nn_nz, nn_mod, nJ_l, lN_add, lN_mul, nn_tb1, nI_bt, nn_and, nn_or, nn_xor, nn_shr, nn_1shl, nn_31, il_p, il_n, it_p, it_n, ie_p, ie_n, ie_b, ie_b1, ie_m, ie_mm, it_m, it_m0, il_m0, bI_rZ, Option.bind_some, bd2_some, Nat.add_zero, Nat.zero_add, if_true, if_false, Bool.false_eq_true, eq_self, hI_R, hJ_R, r, e]
theorem nz_bit {x : Nat} (hx : x < 16) : (x != 0) = anyB (fun k => x.testBit k) 4 := by
  have : ∀ x, x < 16 → (x != 0) = anyB (fun k => x.testBit k) 4 := by decide +kernel
  exact this x hx
theorem kf_bit {S : Nat → Nat → Nat → Nat → Nat} {v q w a k : Nat} (hk : k < 4) : (kfN S v q w a).testBit k = (S v q w k == a) := by
  unfold kfN
  rw [orN_bit]
  cases hx : S v q w k == a
  · rw [anyB_f]
    intro i hi
    split
    · rename_i h1
      rw [Nat.testBit_two_pow]
      by_cases h2 : i = k
      · rw [h2] at h1
        simp [h1] at hx
      · simp [h2]
    · exact Nat.zero_testBit k
  · rw [anyB_iff]
    exact ⟨k, hk, by rw [if_pos (by simpa using hx), Nat.testBit_two_pow]; simp⟩
theorem gv_nz {S : Nat → Nat → Nat → Nat → Nat} {v q w a m : Nat} (hm : m < 16) : (m &&& kfN S v q w a != 0) = gvB (S v q w) m a 4 := by
  rw [nz_bit (Nat.lt_of_le_of_lt Nat.and_le_left hm)]
  refine anyB_congr (fun k hk => ?_)
  rw [Nat.testBit_and, kf_bit hk]
theorem an_lf {A : Nat → Nat} {P : Nat → Bool} {S : Nat → Nat → Nat → Nat → Nat} {F : Nat → Nat → Nat} {v q a w : Nat} (hv : v < A 4) : lfB A P (anF S v q a F) w = (lfB A P F w && (F v w &&& kfN S v q w a != 0)) := by
  unfold lfB
  rw [Bool.and_assoc]
  refine congrArg (P w && ·) ?_
  rw [Bool.eq_iff_iff, Bool.and_eq_true, allB_iff, allB_iff]
  have e1 : anF S v q a F v w = F v w &&& kfN S v q w a := if_pos rfl
  have e2 : ∀ o, ¬ o = v → anF S v q a F o w = F o w := fun o ho => if_neg ho
  constructor
  · intro h
    refine ⟨fun o ho => ?_, ?_⟩
    · by_cases hx : o = v
      · have := h v hv
        rw [e1] at this
        rw [hx]
        simp only [bne_iff_ne, ne_eq] at this ⊢
        intro e
        rw [e, Nat.zero_and] at this
        exact this rfl
      · have := h o ho
        rw [e2 o hx] at this
        exact this
    · have := h v hv
      rw [e1] at this
      exact this
  · rintro ⟨h1, h2⟩ o ho
    by_cases hx : o = v
    · rw [hx, e1]
      exact h2
    · rw [e2 o hx]
      exact h1 o ho
theorem maxN_ext {f : Nat → Nat} {m : Nat} (h : ∀ i, m ≤ i → f i = 0) : ∀ {n}, m ≤ n → maxN f n = maxN f m
  | 0, hn => by rw [show m = 0 by omega]
  | n + 1, hn => by
    rcases Nat.lt_or_ge m (n + 1) with q | q
    · show max (maxN f n) (f n) = _
      rw [h n (by omega), Nat.max_eq_left (Nat.zero_le _)]
      exact maxN_ext h (by omega)
    · rw [show m = n + 1 by omega]
theorem maxN_congr {f g : Nat → Nat} : ∀ {n}, (∀ i, i < n → f i = g i) → maxN f n = maxN g n
  | 0, _ => rfl
  | n + 1, h => by
    show max (maxN f n) (f n) = max (maxN g n) (g n)
    rw [maxN_congr (fun i hi => h i (by omega)), h n (by omega)]
/-- how many worlds are left behind an answer -/
def bhN (A : Nat → Nat) (P : Nat → Bool) (S : Nat → Nat → Nat → Nat → Nat) (M : Nat → Nat → Nat) (n v q a : Nat) : Nat := cntB (fun w => lvB A P S M n w && gvB (S v q w) (FT A P S M n v w) a 4) (A 2)
theorem bh_an {A : Nat → Nat} {P : Nat → Bool} {S : Nat → Nat → Nat → Nat → Nat} {M : Nat → Nat → Nat} {n v q a : Nat} (hv : v < A 4) : cntB (lfB A P (anF S v q a (FT A P S M n))) (A 2) = bhN A P S M n v q a := cntB_congr (fun w _ => by
  rw [an_lf hv, lf_lv, gv_nz (FT_lt v w)])
theorem bh_0 {A : Nat → Nat} {P : Nat → Bool} {S : Nat → Nat → Nat → Nat → Nat} {M : Nat → Nat → Nat} {n v q : Nat} (hS : ∀ w k, w < A 2 → P w = true → k < 4 → S v q w k < 2 * A 3) {a : Nat} (ha : 2 * A 3 ≤ a) : bhN A P S M n v q a = 0 := cntB_0.mpr (fun w hw => by
  cases hl : lvB A P S M n w
  · rfl
  · rw [Bool.true_and]
    refine anyB_f.mpr (fun k hk => ?_)
    have := hS w k hw (lv_P hl) hk
    rw [beq_eq_false_iff_ne.mpr (show S v q w k ≠ a by omega), Bool.and_false])
theorem wo_bh {A : Nat → Nat} {P : Nat → Bool} {S : Nat → Nat → Nat → Nat → Nat} {M : Nat → Nat → Nat} {n v q : Nat} (hv : v < A 4) (h3 : A 3 ≤ 12) (hS : ∀ w k, w < A 2 → P w = true → k < 4 → S v q w k < 2 * A 3) : maxN (fun a => bhN A P S M n v q a) 24 = woN A P S (FT A P S M n) v q := by
  rw [maxN_ext (fun i hi => bh_0 hS hi) (show 2 * A 3 ≤ 24 by omega)]
  exact maxN_congr (fun a _ => (bh_an hv).symm)
theorem k_most52 {h : aH} {c : Nat} (hs : CS h c) {A : Nat → Nat} {P : Nat → Bool} {Q : Nat → Nat → Bool} {S : Nat → Nat → Nat → Nat → Nat} (hc : CC h c A P Q S) (hw : WF A) (hl : LAY h) (hf : h.2.2.2 52 4 = some c) {n d : Nat} {M : Nat → Nat → Nat} (hm : MN h 53 n d M) (mw : MW A n d M) (hr : HR h 52 A P S M n) {v q : Nat} (hv4 : v < A 4) (hq : q < A 3) : ∃ h', f_X3_mostLeftBehind h 52 (nI v) (nI q) = some (nI (woN A P S (FT A P S M n) v q), h') ∧ FR h h' [60] [] [] [] := by
  obtain ⟨b0, b1, b2l, b2, b3, b4⟩ := wf_b hw
  obtain ⟨mn, md, mk, mi⟩ := mw
  have hv : h.2.1 52 5 = nI (cntB (lvB A P S M n) (A 2)) := hr.1
  have cle := cntB_le (lvB A P S M n) (A 2)
  have hal : ∀ j, j < cntB (lvB A P S M n) (A 2) → h.2.1 59 j = nI (alN (lvB A P S M n) (A 2) j) ∧ alN (lvB A P S M n) (A 2) j < A 2 ∧ lvB A P S M n (alN (lvB A P S M n) (A 2) j) = true := fun j hj => hr_al hr hj
  have aln := al_N (lvB A P S M n) (A 2)
  have hS : ∀ w k, w < A 2 → P w = true → k < 4 → S v q w k < 2 * A 3 := fun w k h1 h2 h3 => (hc.2.2.2.2.2.2 v q w hv4 hq h1 h2).2 k h3
  rw [← wo_bh hv4 b3 hS]
  have k20 : kd h 60 = 20 := lay_kd hl 60 (by decide)
  have l24 : ln h 60 = 24 := lay_ln hl 60 (by decide)
  have e1 := fill_I (x := nI 0) k20 l24 (by decide)
  have f1 : FR h (wI h 60 (setF (h.2.1 60) 0 24 (fun _ => nI 0))) [60] [] [] [] := FR.wI (by decide) (by decide) (by decide)
  have e2 : ∃ h', f_X3_mostLeftBehind_l10 52 (nI v) (nI q) (nI 0) (wI h 60 (setF (h.2.1 60) 0 24 (fun _ => nI 0))) = some h' ∧ FR h h' [60] [] [] [] ∧ ∀ a, a < 24 → h'.2.1 60 a = nI (bhN A P S M n v q a) := by
    refine forI (fun i (s : Int32 × aH) => ∃ g, s = (nI i, g) ∧ FR h g [60] [] [] [] ∧ ∀ a, a < 24 → g.2.1 60 a = nI (cntB (fun j => gvB (S v q (alN (lvB A P S M n) (A 2) j)) (FT A P S M n v (alN (lvB A P S M n) (A 2) j)) a 4) i)) _ (cntB (lvB A P S M n) (A 2)) (by omega) ⟨_, rfl, f1, fun a ha => by rw [wI_s, setF_in0 ha]; rfl⟩ ?_ ?_
    · rintro i _ hi ⟨g, rfl, fg, i1⟩
      have lg := fg.lay hl
      have sg := cs_fr fg hs
      have cg := cc_fr fg (by decide) hs hc
      have hfg : g.2.2.2 52 4 = some c := by rw [fg.2.1]; exact hf
      obtain ⟨a1, a2, a3⟩ := hal i hi
      have ap := lv_P a3
      have ga : g.2.1 59 i = nI (alN (lvB A P S M n) (A 2) i) := by rw [fg.I 59 (by decide) (by decide) (by decide)]; exact a1
      have gv : g.2.1 52 5 = nI (cntB (lvB A P S M n) (A 2)) := by rw [fg.I 52 (by decide) (by decide) (by decide)]; exact hv
      have gfit : ∀ w, w < A 2 → P w = true → g.2.1 58 w = nI (pk4 (fun u => fcN S M w u n)) := by rw [fg.I 58 (by decide) (by decide) (by decide)]; exact hr.2.2.1
      have r1 := k_left52 sg cg hw lg hfg gfit hv4 a2 ap
      rw [← ft_fc (A := A) ap] at r1
      have r2 := c_packed sg cg hw hv4 hq a2 ap
      obtain ⟨g', e3, f3, i3⟩ := k_cnt4_52 lg (s := S v q (alN (lvB A P S M n) (A 2) i)) (fun k hk => by have := hS _ k a2 ap hk; omega) (FT_lt v (alN (lvB A P S M n) (A 2) i)) i1 (fun a ha => by have := cntB_le (fun j => gvB (S v q (alN (lvB A P S M n) (A 2) j)) (FT A P S M n v (alN (lvB A P S M n) (A 2) j)) a 4) i; omega) (nI v) (nI q) (nI i)
      exact ⟨(nI (i + 1), g'), by simp (disch := first | assumption | omega | decide | ((repeat first | apply lyI | apply lyJ | apply lywI | apply lywJ | apply csI | apply csJ | apply cswI | apply cswJ); assumption)) only [f_X3_mostLeftBehind_b10, f_X3_mostLeftBehind_j105, SH52, SC, LI, ↓li_m1, nI_add, pk_mul, nn_sub, nn_m1, nn_div, nn_rem, nn_nz, nn_mod, nJ_l, lN_add, lN_mul, nn_tb1, nI_bt, nn_and, nn_or, nn_xor, nn_shr, nn_1shl, nn_31, il_p, il_n, it_p, it_n, ie_p, ie_n, ie_b, ie_b1, ie_m, ie_mm, it_m, it_m0, il_m0, bI_rZ, Option.bind_some, bd2_some, Nat.add_zero, Nat.zero_add, if_true, if_false, Bool.false_eq_true, eq_self, hI_R, hJ_R, gv, ga, hfg, r1, r2, e3], g', rfl, fg.tr f3, i3⟩
    · rintro _ ⟨g, rfl, fg, i1⟩
      have lg := fg.lay hl
      have gv : g.2.1 52 5 = nI (cntB (lvB A P S M n) (A 2)) := by rw [fg.I 52 (by decide) (by decide) (by decide)]; exact hv
      refine ⟨g, by simp (disch := first | assumption | omega | decide | ((repeat first | apply lyI | apply lyJ | apply lywI | apply lywJ | apply csI | apply csJ | apply cswI | apply cswJ); assumption)) only [f_X3_mostLeftBehind_b10, f_X3_mostLeftBehind_j105, SH52, LI, ↓li_m1, nI_add, pk_mul, nn_sub, nn_m1, nn_div, nn_rem, nn_nz, nn_mod, nJ_l, lN_add, lN_mul, nn_tb1, nI_bt, nn_and, nn_or, nn_xor, nn_shr, nn_1shl, nn_31, il_p, il_n, it_p, it_n, ie_p, ie_n, ie_b, ie_b1, ie_m, ie_mm, it_m, it_m0, il_m0, bI_rZ, Option.bind_some, bd2_some, Nat.add_zero, Nat.zero_add, if_true, if_false, Bool.false_eq_true, eq_self, hI_R, hJ_R, gv], fg, fun a ha => ?_⟩
      rw [i1 a ha, al_cnt (q := fun w => gvB (S v q w) (FT A P S M n v w) a 4) aln]
      rfl
  obtain ⟨h', e3, f3, i3⟩ := e2
  have l3 := f3.lay hl
  have bl : ∀ a, bhN A P S M n v q a ≤ 256 := fun a => Nat.le_trans (cntB_le _ _) b2
  have e4 : f_X3_mostLeftBehind_l128 h' 52 (nI 0) (nI 0) = some (nI (maxN (fun a => bhN A P S M n v q a) 24)) := by
    refine for0 (body := fun zz : Int32 × Int32 => f_X3_mostLeftBehind_b128 h' 52 zz.1 zz.2) (fun j => (nI (maxN (fun a => bhN A P S M n v q a) j), nI j)) (24) (e := nI (maxN (fun a => bhN A P S M n v q a) 24)) (rfl) (by decide) (fun j hj => ?_) ?_
    · have x1 := i3 j hj
      have x2 := bl j
      have x3 := maxN_le (f := fun a => bhN A P S M n v q a) bl j
      simp (disch := first | assumption | omega | decide | ((repeat first | apply lyI | apply lyJ | apply lywI | apply lywJ | apply csI | apply csJ | apply cswI | apply cswJ); assumption)) only [f_X3_mostLeftBehind_b128, f_X3_mostLeftBehind_j105, SH52, LI, ↓li_m1, nI_add, pk_mul, nn_sub, nn_m1, nn_div, nn_rem, nn_nz, nn_mod, nJ_l, lN_add, lN_mul, nn_tb1, nI_bt, nn_and, nn_or, nn_xor, nn_shr, nn_1shl, nn_31, il_p, il_n, it_p, it_n, ie_p, ie_n, ie_b, ie_b1, ie_m, ie_mm, it_m, it_m0, il_m0, bI_rZ, Option.bind_some, bd2_some, Nat.add_zero, Nat.zero_add, if_true, if_false, Bool.false_eq_true, eq_self, hI_R, hJ_R, x1, mx_nI]
      rfl
    · simp (disch := first | assumption | omega | decide | ((repeat first | apply lyI | apply lyJ | apply lywI | apply lywJ | apply csI | apply csJ | apply cswI | apply cswJ); assumption)) only [f_X3_mostLeftBehind_b128, f_X3_mostLeftBehind_j105, SH52, LI, ↓li_m1, nI_add, pk_mul, nn_sub, nn_m1, nn_div, nn_rem, nn_nz, nn_mod, nJ_l, lN_add, lN_mul, nn_tb1, nI_bt, nn_and, nn_or, nn_xor, nn_shr, nn_1shl, nn_31, il_p, il_n, it_p, it_n, ie_p, ie_n, ie_b, ie_b1, ie_m, ie_mm, it_m, it_m0, il_m0, bI_rZ, Option.bind_some, bd2_some, Nat.add_zero, Nat.zero_add, if_true, if_false, Bool.false_eq_true, eq_self, hI_R, hJ_R]
  exact ⟨h', by simp (disch := first | assumption | omega | decide | ((repeat first | apply lyI | apply lyJ | apply lywI | apply lywJ | apply csI | apply csJ | apply cswI | apply cswJ); assumption)) only [f_X3_mostLeftBehind, SH52, LI, ↓li_m1, nI_add, pk_mul, nn_sub, nn_m1, nn_div, nn_rem, nn_nz, nn_mod, nJ_l, lN_add, lN_mul, nn_tb1, nI_bt, nn_and, nn_or, nn_xor, nn_shr, nn_1shl, nn_31, il_p, il_n, it_p, it_n, ie_p, ie_n, ie_b, ie_b1, ie_m, ie_mm, it_m, it_m0, il_m0, bI_rZ, Option.bind_some, bd2_some, Nat.add_zero, Nat.zero_add, if_true, if_false, Bool.false_eq_true, eq_self, hI_R, hJ_R, e1, e3, e4], f3⟩
theorem k_best52 {h : aH} {c : Nat} (hs : CS h c) {A : Nat → Nat} {P : Nat → Bool} {Q : Nat → Nat → Bool} {S : Nat → Nat → Nat → Nat → Nat} (hc : CC h c A P Q S) (hw : WF A) (hl : LAY h) (hf : h.2.2.2 52 4 = some c) {n d : Nat} {M : Nat → Nat → Nat} (hm : MN h 53 n d M) (mw : MW A n d M) (hr : HR h 52 A P S M n) {v : Nat} (hv4 : v < A 4) : ∃ h', f_X3_bestFor h 52 (nI v) = some (if cntB (lvB A P S M n) (A 2) = 0 then m1 else bsI (bsN (putN M n) (woN A P S (FT A P S M n) v) (A 3)), h') ∧ FR h h' [60] [] [] [] := by
  obtain ⟨b0, b1, b2l, b2, b3, b4⟩ := wf_b hw
  obtain ⟨mn, md, mk, mi⟩ := mw
  have hv : h.2.1 52 5 = nI (cntB (lvB A P S M n) (A 2)) := hr.1
  have cle := cntB_le (lvB A P S M n) (A 2)
  have hal : ∀ j, j < cntB (lvB A P S M n) (A 2) → h.2.1 59 j = nI (alN (lvB A P S M n) (A 2) j) ∧ alN (lvB A P S M n) (A 2) j < A 2 ∧ lvB A P S M n (alN (lvB A P S M n) (A 2) j) = true := fun j hj => hr_al hr hj
  have aln := al_N (lvB A P S M n) (A 2)
  have e : ∃ e, f_X3_bestFor_l9 52 (nI v) m1 (nI 257) (nI 0) h = some e ∧ ∃ g, e = (if cntB (lvB A P S M n) (A 2) = 0 then m1 else bsI (bsN (putN M n) (woN A P S (FT A P S M n) v) (A 3)), g) ∧ FR h g [60] [] [] [] := by
    refine whl0 (fun i (s : Int32 × Int32 × Int32 × aH) => ∃ g, s = (bsI (bsN (putN M n) (woN A P S (FT A P S M n) v) i), (match bsN (putN M n) (woN A P S (FT A P S M n) v) i with | none => nI 257 | some (_, l) => nI l), nI i, g) ∧ FR h g [60] [] [] [] ∧ (cntB (lvB A P S M n) (A 2) = 0 → i = 0)) _ (A 3) (by omega) ⟨h, rfl, FR.rf, fun _ => rfl⟩ ?_
    rintro i _ ⟨g, rfl, fg, hi0⟩ hi
    have lg := fg.lay hl
    have sg := cs_fr fg hs
    have cg := cc_fr fg (by decide) hs hc
    have hfg : g.2.2.2 52 4 = some c := by rw [fg.2.1]; exact hf
    have mg : MN g 53 n d M := by
      unfold MN
      rw [fg.I 53 (by decide) (by decide) (by decide), fg.I (53 + 1) (by decide) (by decide) (by decide), fg.I (53 + 2) (by decide) (by decide) (by decide), fg.I (53 + 3) (by decide) (by decide) (by decide), fg.I (53 + 4) (by decide) (by decide) (by decide)]
      exact hm
    have rg : HR g 52 A P S M n := by
      unfold HR
      rw [fg.I 52 (by decide) (by decide) (by decide), fg.I (52 + 6) (by decide) (by decide) (by decide), fg.I (52 + 7) (by decide) (by decide) (by decide)]
      exact hr
    have gv : g.2.1 52 5 = nI (cntB (lvB A P S M n) (A 2)) := rg.1
    have e3 := cg.1.2.2.2.2.1
    rcases Nat.lt_or_ge i (A 3) with qi | qi
    · by_cases hz : cntB (lvB A P S M n) (A 2) = 0
      · obtain rfl := hi0 hz
        refine Or.inr ⟨(m1, g), by simp (disch := first | assumption | omega | decide | ((repeat first | apply lyI | apply lyJ | apply lywI | apply lywJ | apply csI | apply csJ | apply cswI | apply cswJ); assumption)) only [f_X3_bestFor_b9, f_X3_bestFor_j58, SH52, SC, LI, ↓li_m1, nI_add, pk_mul, nn_sub, nn_m1, nn_div, nn_rem, nn_nz, nn_mod, nJ_l, lN_add, lN_mul, nn_tb1, nI_bt, nn_and, nn_or, nn_xor, nn_shr, nn_1shl, nn_31, il_p, il_n, it_p, it_n, ie_p, ie_n, ie_b, ie_b1, ie_m, ie_mm, it_m, it_m0, il_m0, bI_rZ, Option.bind_some, bd2_some, Nat.add_zero, Nat.zero_add, if_true, if_false, Bool.false_eq_true, eq_self, hI_R, hJ_R, hfg, e3, gv, hz]; rfl, g, ?_, fg⟩
        rw [if_pos hz]
      · refine Or.inl ?_
        have ep := k_wasPut52 sg cg hw lg hfg mg ⟨mn, md, mk, mi⟩ rg qi
        cases hpi : putN M n i
        · rw [hpi] at ep
          obtain ⟨g', e1, f1⟩ := k_most52 sg cg hw lg hfg mg ⟨mn, md, mk, mi⟩ rg hv4 qi
          have wle := woN_le A P S (FT A P S M n) v i
          cases hbs : bsN (putN M n) (woN A P S (FT A P S M n) v) i with
          | none => exact ⟨_, by simp (disch := first | assumption | omega | decide | ((repeat first | apply lyI | apply lyJ | apply lywI | apply lywJ | apply csI | apply csJ | apply cswI | apply cswJ); assumption)) only [f_X3_bestFor_b9, f_X3_bestFor_j58, SH52, SC, LI, ↓li_m1, nI_add, pk_mul, nn_sub, nn_m1, nn_div, nn_rem, nn_nz, nn_mod, nJ_l, lN_add, lN_mul, nn_tb1, nI_bt, nn_and, nn_or, nn_xor, nn_shr, nn_1shl, nn_31, il_p, il_n, it_p, it_n, ie_p, ie_n, ie_b, ie_b1, ie_m, ie_mm, it_m, it_m0, il_m0, bI_rZ, Option.bind_some, bd2_some, Nat.add_zero, Nat.zero_add, if_true, if_false, Bool.false_eq_true, eq_self, hI_R, hJ_R, hfg, e3, gv, ep, bI_f, e1, bsI]; rfl, qi, g', by simp only [bsN, hpi, hbs, Bool.false_eq_true, if_false, bsI], fg.tr f1, fun e => absurd e hz⟩
          | some x =>
            obtain ⟨b, l⟩ := x
            have bb := bsN_b (woN_le A P S (FT A P S M n) v) hbs
            by_cases hx : woN A P S (FT A P S M n) v i < l
            · exact ⟨_, by simp (disch := first | assumption | omega | decide | ((repeat first | apply lyI | apply lyJ | apply lywI | apply lywJ | apply csI | apply csJ | apply cswI | apply cswJ); assumption)) only [f_X3_bestFor_b9, f_X3_bestFor_j58, SH52, SC, LI, ↓li_m1, nI_add, pk_mul, nn_sub, nn_m1, nn_div, nn_rem, nn_nz, nn_mod, nJ_l, lN_add, lN_mul, nn_tb1, nI_bt, nn_and, nn_or, nn_xor, nn_shr, nn_1shl, nn_31, il_p, il_n, it_p, it_n, ie_p, ie_n, ie_b, ie_b1, ie_m, ie_mm, it_m, it_m0, il_m0, bI_rZ, Option.bind_some, bd2_some, Nat.add_zero, Nat.zero_add, if_true, if_false, Bool.false_eq_true, eq_self, hI_R, hJ_R, hfg, e3, gv, ep, bI_f, e1, bsI]; rfl, qi, g', by simp only [bsN, hpi, hbs, Bool.false_eq_true, if_false, bsI, hx, if_true], fg.tr f1, fun e => absurd e hz⟩
            · exact ⟨_, by simp (disch := first | assumption | omega | decide | ((repeat first | apply lyI | apply lyJ | apply lywI | apply lywJ | apply csI | apply csJ | apply cswI | apply cswJ); assumption)) only [f_X3_bestFor_b9, f_X3_bestFor_j58, SH52, SC, LI, ↓li_m1, nI_add, pk_mul, nn_sub, nn_m1, nn_div, nn_rem, nn_nz, nn_mod, nJ_l, lN_add, lN_mul, nn_tb1, nI_bt, nn_and, nn_or, nn_xor, nn_shr, nn_1shl, nn_31, il_p, il_n, it_p, it_n, ie_p, ie_n, ie_b, ie_b1, ie_m, ie_mm, it_m, it_m0, il_m0, bI_rZ, Option.bind_some, bd2_some, Nat.add_zero, Nat.zero_add, if_true, if_false, Bool.false_eq_true, eq_self, hI_R, hJ_R, hfg, e3, gv, ep, bI_f, e1, bsI]; rfl, qi, g', by simp only [bsN, hpi, hbs, Bool.false_eq_true, if_false, bsI, hx], fg.tr f1, fun e => absurd e hz⟩
        · rw [hpi] at ep
          exact ⟨_, by simp (disch := first | assumption | omega | decide | ((repeat first | apply lyI | apply lyJ | apply lywI | apply lywJ | apply csI | apply csJ | apply cswI | apply cswJ); assumption)) only [f_X3_bestFor_b9, f_X3_bestFor_j58, SH52, SC, LI, ↓li_m1, nI_add, pk_mul, nn_sub, nn_m1, nn_div, nn_rem, nn_nz, nn_mod, nJ_l, lN_add, lN_mul, nn_tb1, nI_bt, nn_and, nn_or, nn_xor, nn_shr, nn_1shl, nn_31, il_p, il_n, it_p, it_n, ie_p, ie_n, ie_b, ie_b1, ie_m, ie_mm, it_m, it_m0, il_m0, bI_rZ, Option.bind_some, bd2_some, Nat.add_zero, Nat.zero_add, if_true, if_false, Bool.false_eq_true, eq_self, hI_R, hJ_R, hfg, e3, gv, ep, bI_t]; rfl, qi, g, by simp only [bsN, hpi, if_true], fg, fun e => absurd e hz⟩
    · obtain rfl : i = A 3 := by omega
      refine Or.inr ⟨_, by simp (disch := first | assumption | omega | decide | ((repeat first | apply lyI | apply lyJ | apply lywI | apply lywJ | apply csI | apply csJ | apply cswI | apply cswJ); assumption)) only [f_X3_bestFor_b9, f_X3_bestFor_j58, SH52, SC, LI, ↓li_m1, nI_add, pk_mul, nn_sub, nn_m1, nn_div, nn_rem, nn_nz, nn_mod, nJ_l, lN_add, lN_mul, nn_tb1, nI_bt, nn_and, nn_or, nn_xor, nn_shr, nn_1shl, nn_31, il_p, il_n, it_p, it_n, ie_p, ie_n, ie_b, ie_b1, ie_m, ie_mm, it_m, it_m0, il_m0, bI_rZ, Option.bind_some, bd2_some, Nat.add_zero, Nat.zero_add, if_true, if_false, Bool.false_eq_true, eq_self, hI_R, hJ_R, hfg, e3]; rfl, g, ?_, fg⟩
      by_cases hz : cntB (lvB A P S M n) (A 2) = 0
      · rw [if_pos hz, hi0 hz]
        rfl
      · rw [if_neg hz]
  obtain ⟨_, e1, g, rfl, fg⟩ := e
  exact ⟨g, by simp (disch := first | assumption | omega | decide | ((repeat first | apply lyI | apply lyJ | apply lywI | apply lywJ | apply csI | apply csJ | apply cswI | apply cswJ); assumption)) only [f_X3_bestFor, LI, ↓li_m1, nI_add, pk_mul, nn_sub, nn_m1, nn_div, nn_rem, nn_nz, nn_mod, nJ_l, lN_add, lN_mul, nn_tb1, nI_bt, nn_and, nn_or, nn_xor, nn_shr, nn_1shl, nn_31, il_p, il_n, it_p, it_n, ie_p, ie_n, ie_b, ie_b1, ie_m, ie_mm, it_m, it_m0, il_m0, bI_rZ, Option.bind_some, bd2_some, Nat.add_zero, Nat.zero_add, if_true, if_false, Bool.false_eq_true, eq_self, hI_R, hJ_R, e1], fg⟩
theorem k_most68 {h : aH} {c : Nat} (hs : CS h c) {A : Nat → Nat} {P : Nat → Bool} {Q : Nat → Nat → Bool} {S : Nat → Nat → Nat → Nat → Nat} (hc : CC h c A P Q S) (hw : WF A) (hl : LAY h) (hf : h.2.2.2 68 4 = some c) {n d : Nat} {M : Nat → Nat → Nat} (hm : MN h 69 n d M) (mw : MW A n d M) (hr : HR h 68 A P S M n) {v q : Nat} (hv4 : v < A 4) (hq : q < A 3) : ∃ h', f_X3_mostLeftBehind h 68 (nI v) (nI q) = some (nI (woN A P S (FT A P S M n) v q), h') ∧ FR h h' [76] [] [] [] := by
  obtain ⟨b0, b1, b2l, b2, b3, b4⟩ := wf_b hw
  obtain ⟨mn, md, mk, mi⟩ := mw
  have hv : h.2.1 68 5 = nI (cntB (lvB A P S M n) (A 2)) := hr.1
  have cle := cntB_le (lvB A P S M n) (A 2)
  have hal : ∀ j, j < cntB (lvB A P S M n) (A 2) → h.2.1 75 j = nI (alN (lvB A P S M n) (A 2) j) ∧ alN (lvB A P S M n) (A 2) j < A 2 ∧ lvB A P S M n (alN (lvB A P S M n) (A 2) j) = true := fun j hj => hr_al hr hj
  have aln := al_N (lvB A P S M n) (A 2)
  have hS : ∀ w k, w < A 2 → P w = true → k < 4 → S v q w k < 2 * A 3 := fun w k h1 h2 h3 => (hc.2.2.2.2.2.2 v q w hv4 hq h1 h2).2 k h3
  rw [← wo_bh hv4 b3 hS]
  have k20 : kd h 76 = 20 := lay_kd hl 76 (by decide)
  have l24 : ln h 76 = 24 := lay_ln hl 76 (by decide)
  have e1 := fill_I (x := nI 0) k20 l24 (by decide)
  have f1 : FR h (wI h 76 (setF (h.2.1 76) 0 24 (fun _ => nI 0))) [76] [] [] [] := FR.wI (by decide) (by decide) (by decide)
  have e2 : ∃ h', f_X3_mostLeftBehind_l10 68 (nI v) (nI q) (nI 0) (wI h 76 (setF (h.2.1 76) 0 24 (fun _ => nI 0))) = some h' ∧ FR h h' [76] [] [] [] ∧ ∀ a, a < 24 → h'.2.1 76 a = nI (bhN A P S M n v q a) := by
    refine forI (fun i (s : Int32 × aH) => ∃ g, s = (nI i, g) ∧ FR h g [76] [] [] [] ∧ ∀ a, a < 24 → g.2.1 76 a = nI (cntB (fun j => gvB (S v q (alN (lvB A P S M n) (A 2) j)) (FT A P S M n v (alN (lvB A P S M n) (A 2) j)) a 4) i)) _ (cntB (lvB A P S M n) (A 2)) (by omega) ⟨_, rfl, f1, fun a ha => by rw [wI_s, setF_in0 ha]; rfl⟩ ?_ ?_
    · rintro i _ hi ⟨g, rfl, fg, i1⟩
      have lg := fg.lay hl
      have sg := cs_fr fg hs
      have cg := cc_fr fg (by decide) hs hc
      have hfg : g.2.2.2 68 4 = some c := by rw [fg.2.1]; exact hf
      obtain ⟨a1, a2, a3⟩ := hal i hi
      have ap := lv_P a3
      have ga : g.2.1 75 i = nI (alN (lvB A P S M n) (A 2) i) := by rw [fg.I 75 (by decide) (by decide) (by decide)]; exact a1
      have gv : g.2.1 68 5 = nI (cntB (lvB A P S M n) (A 2)) := by rw [fg.I 68 (by decide) (by decide) (by decide)]; exact hv
      have gfit : ∀ w, w < A 2 → P w = true → g.2.1 74 w = nI (pk4 (fun u => fcN S M w u n)) := by rw [fg.I 74 (by decide) (by decide) (by decide)]; exact hr.2.2.1
      have r1 := k_left68 sg cg hw lg hfg gfit hv4 a2 ap
      rw [← ft_fc (A := A) ap] at r1
      have r2 := c_packed sg cg hw hv4 hq a2 ap
      obtain ⟨g', e3, f3, i3⟩ := k_cnt4_68 lg (s := S v q (alN (lvB A P S M n) (A 2) i)) (fun k hk => by have := hS _ k a2 ap hk; omega) (FT_lt v (alN (lvB A P S M n) (A 2) i)) i1 (fun a ha => by have := cntB_le (fun j => gvB (S v q (alN (lvB A P S M n) (A 2) j)) (FT A P S M n v (alN (lvB A P S M n) (A 2) j)) a 4) i; omega) (nI v) (nI q) (nI i)
      exact ⟨(nI (i + 1), g'), by simp (disch := first | assumption | omega | decide | ((repeat first | apply lyI | apply lyJ | apply lywI | apply lywJ | apply csI | apply csJ | apply cswI | apply cswJ); assumption)) only [f_X3_mostLeftBehind_b10, f_X3_mostLeftBehind_j105, SH68, SC, LI, ↓li_m1, nI_add, pk_mul, nn_sub, nn_m1, nn_div, nn_rem, nn_nz, nn_mod, nJ_l, lN_add, lN_mul, nn_tb1, nI_bt, nn_and, nn_or, nn_xor, nn_shr, nn_1shl, nn_31, il_p, il_n, it_p, it_n, ie_p, ie_n, ie_b, ie_b1, ie_m, ie_mm, it_m, it_m0, il_m0, bI_rZ, Option.bind_some, bd2_some, Nat.add_zero, Nat.zero_add, if_true, if_false, Bool.false_eq_true, eq_self, hI_R, hJ_R, gv, ga, hfg, r1, r2, e3], g', rfl, fg.tr f3, i3⟩
    · rintro _ ⟨g, rfl, fg, i1⟩
      have lg := fg.lay hl
      have gv : g.2.1 68 5 = nI (cntB (lvB A P S M n) (A 2)) := by rw [fg.I 68 (by decide) (by decide) (by decide)]; exact hv
      refine ⟨g, by simp (disch := first | assumption | omega | decide | ((repeat first | apply lyI | apply lyJ | apply lywI | apply lywJ | apply csI | apply csJ | apply cswI | apply cswJ); assumption)) only [f_X3_mostLeftBehind_b10, f_X3_mostLeftBehind_j105, SH68, LI, ↓li_m1, nI_add, pk_mul, nn_sub, nn_m1, nn_div, nn_rem, nn_nz, nn_mod, nJ_l, lN_add, lN_mul, nn_tb1, nI_bt, nn_and, nn_or, nn_xor, nn_shr, nn_1shl, nn_31, il_p, il_n, it_p, it_n, ie_p, ie_n, ie_b, ie_b1, ie_m, ie_mm, it_m, it_m0, il_m0, bI_rZ, Option.bind_some, bd2_some, Nat.add_zero, Nat.zero_add, if_true, if_false, Bool.false_eq_true, eq_self, hI_R, hJ_R, gv], fg, fun a ha => ?_⟩
      rw [i1 a ha, al_cnt (q := fun w => gvB (S v q w) (FT A P S M n v w) a 4) aln]
      rfl
  obtain ⟨h', e3, f3, i3⟩ := e2
  have l3 := f3.lay hl
  have bl : ∀ a, bhN A P S M n v q a ≤ 256 := fun a => Nat.le_trans (cntB_le _ _) b2
  have e4 : f_X3_mostLeftBehind_l128 h' 68 (nI 0) (nI 0) = some (nI (maxN (fun a => bhN A P S M n v q a) 24)) := by
    refine for0 (body := fun zz : Int32 × Int32 => f_X3_mostLeftBehind_b128 h' 68 zz.1 zz.2) (fun j => (nI (maxN (fun a => bhN A P S M n v q a) j), nI j)) (24) (e := nI (maxN (fun a => bhN A P S M n v q a) 24)) (rfl) (by decide) (fun j hj => ?_) ?_
    · have x1 := i3 j hj
      have x2 := bl j
      have x3 := maxN_le (f := fun a => bhN A P S M n v q a) bl j
      simp (disch := first | assumption | omega | decide | ((repeat first | apply lyI | apply lyJ | apply lywI | apply lywJ | apply csI | apply csJ | apply cswI | apply cswJ); assumption)) only [f_X3_mostLeftBehind_b128, f_X3_mostLeftBehind_j105, SH68, LI, ↓li_m1, nI_add, pk_mul, nn_sub, nn_m1, nn_div, nn_rem, nn_nz, nn_mod, nJ_l, lN_add, lN_mul, nn_tb1, nI_bt, nn_and, nn_or, nn_xor, nn_shr, nn_1shl, nn_31, il_p, il_n, it_p, it_n, ie_p, ie_n, ie_b, ie_b1, ie_m, ie_mm, it_m, it_m0, il_m0, bI_rZ, Option.bind_some, bd2_some, Nat.add_zero, Nat.zero_add, if_true, if_false, Bool.false_eq_true, eq_self, hI_R, hJ_R, x1, mx_nI]
      rfl
    · simp (disch := first | assumption | omega | decide | ((repeat first | apply lyI | apply lyJ | apply lywI | apply lywJ | apply csI | apply csJ | apply cswI | apply cswJ); assumption)) only [f_X3_mostLeftBehind_b128, f_X3_mostLeftBehind_j105, SH68, LI, ↓li_m1, nI_add, pk_mul, nn_sub, nn_m1, nn_div, nn_rem, nn_nz, nn_mod, nJ_l, lN_add, lN_mul, nn_tb1, nI_bt, nn_and, nn_or, nn_xor, nn_shr, nn_1shl, nn_31, il_p, il_n, it_p, it_n, ie_p, ie_n, ie_b, ie_b1, ie_m, ie_mm, it_m, it_m0, il_m0, bI_rZ, Option.bind_some, bd2_some, Nat.add_zero, Nat.zero_add, if_true, if_false, Bool.false_eq_true, eq_self, hI_R, hJ_R]
  exact ⟨h', by simp (disch := first | assumption | omega | decide | ((repeat first | apply lyI | apply lyJ | apply lywI | apply lywJ | apply csI | apply csJ | apply cswI | apply cswJ); assumption)) only [f_X3_mostLeftBehind, SH68, LI, ↓li_m1, nI_add, pk_mul, nn_sub, nn_m1, nn_div, nn_rem, nn_nz, nn_mod, nJ_l, lN_add, lN_mul, nn_tb1, nI_bt, nn_and, nn_or, nn_xor, nn_shr, nn_1shl, nn_31, il_p, il_n, it_p, it_n, ie_p, ie_n, ie_b, ie_b1, ie_m, ie_mm, it_m, it_m0, il_m0, bI_rZ, Option.bind_some, bd2_some, Nat.add_zero, Nat.zero_add, if_true, if_false, Bool.false_eq_true, eq_self, hI_R, hJ_R, e1, e3, e4], f3⟩
theorem k_best68 {h : aH} {c : Nat} (hs : CS h c) {A : Nat → Nat} {P : Nat → Bool} {Q : Nat → Nat → Bool} {S : Nat → Nat → Nat → Nat → Nat} (hc : CC h c A P Q S) (hw : WF A) (hl : LAY h) (hf : h.2.2.2 68 4 = some c) {n d : Nat} {M : Nat → Nat → Nat} (hm : MN h 69 n d M) (mw : MW A n d M) (hr : HR h 68 A P S M n) {v : Nat} (hv4 : v < A 4) : ∃ h', f_X3_bestFor h 68 (nI v) = some (if cntB (lvB A P S M n) (A 2) = 0 then m1 else bsI (bsN (putN M n) (woN A P S (FT A P S M n) v) (A 3)), h') ∧ FR h h' [76] [] [] [] := by
  obtain ⟨b0, b1, b2l, b2, b3, b4⟩ := wf_b hw
  obtain ⟨mn, md, mk, mi⟩ := mw
  have hv : h.2.1 68 5 = nI (cntB (lvB A P S M n) (A 2)) := hr.1
  have cle := cntB_le (lvB A P S M n) (A 2)
  have hal : ∀ j, j < cntB (lvB A P S M n) (A 2) → h.2.1 75 j = nI (alN (lvB A P S M n) (A 2) j) ∧ alN (lvB A P S M n) (A 2) j < A 2 ∧ lvB A P S M n (alN (lvB A P S M n) (A 2) j) = true := fun j hj => hr_al hr hj
  have aln := al_N (lvB A P S M n) (A 2)
  have e : ∃ e, f_X3_bestFor_l9 68 (nI v) m1 (nI 257) (nI 0) h = some e ∧ ∃ g, e = (if cntB (lvB A P S M n) (A 2) = 0 then m1 else bsI (bsN (putN M n) (woN A P S (FT A P S M n) v) (A 3)), g) ∧ FR h g [76] [] [] [] := by
    refine whl0 (fun i (s : Int32 × Int32 × Int32 × aH) => ∃ g, s = (bsI (bsN (putN M n) (woN A P S (FT A P S M n) v) i), (match bsN (putN M n) (woN A P S (FT A P S M n) v) i with | none => nI 257 | some (_, l) => nI l), nI i, g) ∧ FR h g [76] [] [] [] ∧ (cntB (lvB A P S M n) (A 2) = 0 → i = 0)) _ (A 3) (by omega) ⟨h, rfl, FR.rf, fun _ => rfl⟩ ?_
    rintro i _ ⟨g, rfl, fg, hi0⟩ hi
    have lg := fg.lay hl
    have sg := cs_fr fg hs
    have cg := cc_fr fg (by decide) hs hc
    have hfg : g.2.2.2 68 4 = some c := by rw [fg.2.1]; exact hf
    have mg : MN g 69 n d M := by
      unfold MN
      rw [fg.I 69 (by decide) (by decide) (by decide), fg.I (69 + 1) (by decide) (by decide) (by decide), fg.I (69 + 2) (by decide) (by decide) (by decide), fg.I (69 + 3) (by decide) (by decide) (by decide), fg.I (69 + 4) (by decide) (by decide) (by decide)]
      exact hm
    have rg : HR g 68 A P S M n := by
      unfold HR
      rw [fg.I 68 (by decide) (by decide) (by decide), fg.I (68 + 6) (by decide) (by decide) (by decide), fg.I (68 + 7) (by decide) (by decide) (by decide)]
      exact hr
    have gv : g.2.1 68 5 = nI (cntB (lvB A P S M n) (A 2)) := rg.1
    have e3 := cg.1.2.2.2.2.1
    rcases Nat.lt_or_ge i (A 3) with qi | qi
    · by_cases hz : cntB (lvB A P S M n) (A 2) = 0
      · obtain rfl := hi0 hz
        refine Or.inr ⟨(m1, g), by simp (disch := first | assumption | omega | decide | ((repeat first | apply lyI | apply lyJ | apply lywI | apply lywJ | apply csI | apply csJ | apply cswI | apply cswJ); assumption)) only [f_X3_bestFor_b9, f_X3_bestFor_j58, SH68, SC, LI, ↓li_m1, nI_add, pk_mul, nn_sub, nn_m1, nn_div, nn_rem, nn_nz, nn_mod, nJ_l, lN_add, lN_mul, nn_tb1, nI_bt, nn_and, nn_or, nn_xor, nn_shr, nn_1shl, nn_31, il_p, il_n, it_p, it_n, ie_p, ie_n, ie_b, ie_b1, ie_m, ie_mm, it_m, it_m0, il_m0, bI_rZ, Option.bind_some, bd2_some, Nat.add_zero, Nat.zero_add, if_true, if_false, Bool.false_eq_true, eq_self, hI_R, hJ_R, hfg, e3, gv, hz]; rfl, g, ?_, fg⟩
        rw [if_pos hz]
      · refine Or.inl ?_
        have ep := k_wasPut68 sg cg hw lg hfg mg ⟨mn, md, mk, mi⟩ rg qi
        cases hpi : putN M n i
        · rw [hpi] at ep
          obtain ⟨g', e1, f1⟩ := k_most68 sg cg hw lg hfg mg ⟨mn, md, mk, mi⟩ rg hv4 qi
          have wle := woN_le A P S (FT A P S M n) v i
          cases hbs : bsN (putN M n) (woN A P S (FT A P S M n) v) i with
          | none => exact ⟨_, by simp (disch := first | assumption | omega | decide | ((repeat first | apply lyI | apply lyJ | apply lywI | apply lywJ | apply csI | apply csJ | apply cswI | apply cswJ); assumption)) only [f_X3_bestFor_b9, f_X3_bestFor_j58, SH68, SC, LI, ↓li_m1, nI_add, pk_mul, nn_sub, nn_m1, nn_div, nn_rem, nn_nz, nn_mod, nJ_l, lN_add, lN_mul, nn_tb1, nI_bt, nn_and, nn_or, nn_xor, nn_shr, nn_1shl, nn_31, il_p, il_n, it_p, it_n, ie_p, ie_n, ie_b, ie_b1, ie_m, ie_mm, it_m, it_m0, il_m0, bI_rZ, Option.bind_some, bd2_some, Nat.add_zero, Nat.zero_add, if_true, if_false, Bool.false_eq_true, eq_self, hI_R, hJ_R, hfg, e3, gv, ep, bI_f, e1, bsI]; rfl, qi, g', by simp only [bsN, hpi, hbs, Bool.false_eq_true, if_false, bsI], fg.tr f1, fun e => absurd e hz⟩
          | some x =>
            obtain ⟨b, l⟩ := x
            have bb := bsN_b (woN_le A P S (FT A P S M n) v) hbs
            by_cases hx : woN A P S (FT A P S M n) v i < l
            · exact ⟨_, by simp (disch := first | assumption | omega | decide | ((repeat first | apply lyI | apply lyJ | apply lywI | apply lywJ | apply csI | apply csJ | apply cswI | apply cswJ); assumption)) only [f_X3_bestFor_b9, f_X3_bestFor_j58, SH68, SC, LI, ↓li_m1, nI_add, pk_mul, nn_sub, nn_m1, nn_div, nn_rem, nn_nz, nn_mod, nJ_l, lN_add, lN_mul, nn_tb1, nI_bt, nn_and, nn_or, nn_xor, nn_shr, nn_1shl, nn_31, il_p, il_n, it_p, it_n, ie_p, ie_n, ie_b, ie_b1, ie_m, ie_mm, it_m, it_m0, il_m0, bI_rZ, Option.bind_some, bd2_some, Nat.add_zero, Nat.zero_add, if_true, if_false, Bool.false_eq_true, eq_self, hI_R, hJ_R, hfg, e3, gv, ep, bI_f, e1, bsI]; rfl, qi, g', by simp only [bsN, hpi, hbs, Bool.false_eq_true, if_false, bsI, hx, if_true], fg.tr f1, fun e => absurd e hz⟩
            · exact ⟨_, by simp (disch := first | assumption | omega | decide | ((repeat first | apply lyI | apply lyJ | apply lywI | apply lywJ | apply csI | apply csJ | apply cswI | apply cswJ); assumption)) only [f_X3_bestFor_b9, f_X3_bestFor_j58, SH68, SC, LI, ↓li_m1, nI_add, pk_mul, nn_sub, nn_m1, nn_div, nn_rem, nn_nz, nn_mod, nJ_l, lN_add, lN_mul, nn_tb1, nI_bt, nn_and, nn_or, nn_xor, nn_shr, nn_1shl, nn_31, il_p, il_n, it_p, it_n, ie_p, ie_n, ie_b, ie_b1, ie_m, ie_mm, it_m, it_m0, il_m0, bI_rZ, Option.bind_some, bd2_some, Nat.add_zero, Nat.zero_add, if_true, if_false, Bool.false_eq_true, eq_self, hI_R, hJ_R, hfg, e3, gv, ep, bI_f, e1, bsI]; rfl, qi, g', by simp only [bsN, hpi, hbs, Bool.false_eq_true, if_false, bsI, hx], fg.tr f1, fun e => absurd e hz⟩
        · rw [hpi] at ep
          exact ⟨_, by simp (disch := first | assumption | omega | decide | ((repeat first | apply lyI | apply lyJ | apply lywI | apply lywJ | apply csI | apply csJ | apply cswI | apply cswJ); assumption)) only [f_X3_bestFor_b9, f_X3_bestFor_j58, SH68, SC, LI, ↓li_m1, nI_add, pk_mul, nn_sub, nn_m1, nn_div, nn_rem, nn_nz, nn_mod, nJ_l, lN_add, lN_mul, nn_tb1, nI_bt, nn_and, nn_or, nn_xor, nn_shr, nn_1shl, nn_31, il_p, il_n, it_p, it_n, ie_p, ie_n, ie_b, ie_b1, ie_m, ie_mm, it_m, it_m0, il_m0, bI_rZ, Option.bind_some, bd2_some, Nat.add_zero, Nat.zero_add, if_true, if_false, Bool.false_eq_true, eq_self, hI_R, hJ_R, hfg, e3, gv, ep, bI_t]; rfl, qi, g, by simp only [bsN, hpi, if_true], fg, fun e => absurd e hz⟩
    · obtain rfl : i = A 3 := by omega
      refine Or.inr ⟨_, by simp (disch := first | assumption | omega | decide | ((repeat first | apply lyI | apply lyJ | apply lywI | apply lywJ | apply csI | apply csJ | apply cswI | apply cswJ); assumption)) only [f_X3_bestFor_b9, f_X3_bestFor_j58, SH68, SC, LI, ↓li_m1, nI_add, pk_mul, nn_sub, nn_m1, nn_div, nn_rem, nn_nz, nn_mod, nJ_l, lN_add, lN_mul, nn_tb1, nI_bt, nn_and, nn_or, nn_xor, nn_shr, nn_1shl, nn_31, il_p, il_n, it_p, it_n, ie_p, ie_n, ie_b, ie_b1, ie_m, ie_mm, it_m, it_m0, il_m0, bI_rZ, Option.bind_some, bd2_some, Nat.add_zero, Nat.zero_add, if_true, if_false, Bool.false_eq_true, eq_self, hI_R, hJ_R, hfg, e3]; rfl, g, ?_, fg⟩
      by_cases hz : cntB (lvB A P S M n) (A 2) = 0
      · rw [if_pos hz, hi0 hz]
        rfl
      · rw [if_neg hz]
  obtain ⟨_, e1, g, rfl, fg⟩ := e
  exact ⟨g, by simp (disch := first | assumption | omega | decide | ((repeat first | apply lyI | apply lyJ | apply lywI | apply lywJ | apply csI | apply csJ | apply cswI | apply cswJ); assumption)) only [f_X3_bestFor, LI, ↓li_m1, nI_add, pk_mul, nn_sub, nn_m1, nn_div, nn_rem, nn_nz, nn_mod, nJ_l, lN_add, lN_mul, nn_tb1, nI_bt, nn_and, nn_or, nn_xor, nn_shr, nn_1shl, nn_31, il_p, il_n, it_p, it_n, ie_p, ie_n, ie_b, ie_b1, ie_m, ie_mm, it_m, it_m0, il_m0, bI_rZ, Option.bind_some, bd2_some, Nat.add_zero, Nat.zero_add, if_true, if_false, Bool.false_eq_true, eq_self, hI_R, hJ_R, e1], fg⟩
