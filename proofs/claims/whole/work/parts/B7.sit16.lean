/-! ===== a sitting: the whole of the reference's ===== -/
theorem r_sits {h : aH} (hl : LAY h) {A : Nat → Nat} {P : Nat → Bool} {Q : Nat → Nat → Bool} (hc : CM h A P Q) (hw : WF A) {n d : Nat} {M : Nat → Nat → Nat} (hm : MM h n d M) (mw : MW A n d M) {S : Nat → Nat → Nat → Nat → Nat} (hs : SY h A P S) (hp : cntB P (A 2) ≠ 0) {seed : Nat} (hseed : seed < 65536) {K : Nat → Nat → Nat} {N : Nat} (pr : PR h K N) {W F G B : Nat → Nat} {ns : Nat} (pk : PK A K N W F G B ns) : ∃ h' t e, f_X12_sits h 113 (nI seed) = some h' ∧ FR h h' [129, 130, 132, 133, 134] [] [] [39, 40, 41] ∧ GM A t ∧ h'.2.1 113 41 = nI e ∧ rcE A P Q S (trN A P seed) (rcS A P Q S (trN A P seed) (tkN A seed) W F G B (0, 0, M0) ns) = (e, t) ∧ ∀ j, j < 6 → h'.2.1 134 j = nI (tlN A P S (trN A P seed) (tkN A seed) t j) := by
  obtain ⟨t1, t2⟩ := tr_lt hw hp (seed := seed)
  obtain ⟨m5, m6, mM⟩ := id hm
  have k1 := r_keep hl (nI seed) (nI d) (nI n)
  have r1 : ∀ a b, f_X12_sits_l18 113 (nI seed) a b (nI 0) h = some (wI h 133 (setF (h.2.1 133) 0 48 (fun k => h.2.1 114 (100 + k)))) := fun a b => r_keep hl _ a b
  let h3 := hI (hI (hI (wI h 133 (setF (h.2.1 133) 0 48 (fun k => h.2.1 114 (100 + k)))) 114 5 (nI 0)) 114 6 (nI 0)) 113 39 (nI seed)
  have l3 : LAY h3 := hl
  have f3 : FR h h3 [114, 129, 130, 132, 133, 134] [] [] [39, 40, 41] := (((FR.wI (by decide) (by decide) (by decide)).tr (FR.hI (by decide) (by decide) (by decide))).tr (FR.hI (by decide) (by decide) (by decide))).tr (fr_1 (by decide))
  have q3 : ∀ k, k ≠ 5 → k ≠ 6 → h3.2.1 114 k = h.2.1 114 k := fun k h5 h6 => by
    show (hI (hI (wI h 133 _) 114 5 (nI 0)) 114 6 (nI 0)).2.1 114 k = _
    rw [rI_nk h6, rI_nk h5, wI_n (by decide)]
  have c3 : CM h3 A P Q := cm_up hc (fun k _ h5 h6 _ => q3 k h5 h6) rfl
  have mm3 : MM h3 0 0 M0 := ⟨rfl, rfl, fun k i hk => absurd hk (by omega)⟩
  have s3 : SY h3 A P S := hs
  obtain ⟨h4, e4, f4, t40, t132⟩ := r_truth l3 c3 hw hp hseed (show h3.2.1 113 39 = nI seed from rfl)
  have f4' : FR h3 (hI h4 113 41 (nI 2)) [132] [] [] [39, 40, 41] := (f4.mono (by decide) (by decide) (by decide) (by decide)).tr (fr_1 (by decide))
  have r85 : R8 (hI h4 113 41 (nI 2)) A P Q S (0, 0, M0) := r8_fr f4' (by decide) (by decide) ⟨l3, c3, mm3, s3⟩
  have kp3 : KP h h3 := ⟨fun k hk => q3 k (by omega) (by omega), q3 7 (by decide) (by decide)⟩
  have kp5 : KP h (hI h4 113 41 (nI 2)) := kp_tr kp3 (kp_fr f4' (by decide))
  obtain ⟨h6, e6, t, e, f6, kp6, r86, gm6, e41, hrc⟩ := r_loop r85 hw gm_0 rfl (tr := trN A P seed) (tk := tkN A seed) ((rI_nk (by decide)).trans t40) rI_eq t132 t1 t2 (fun v hv => tk_lt hw hv) (fun v q hv hq => (hs v q _ _ hv hq t1 t2 (tk_lt hw hv)).2) (pr_kp kp5 pr) pk (nI d) (nI n)
  have e40 : h6.2.1 113 40 = nI (trN A P seed) := by
    rw [f6.2.2.2.2.2 40 (by decide), rI_nk (by decide)]
    exact t40
  have e132 : ∀ v, v < A 4 → h6.2.1 132 v = nI (tkN A seed v) := fun v hv => by
    rw [f6.I 132 (by decide) (by decide) (by decide)]
    exact t132 v hv
  obtain ⟨g, e7, f7, tl⟩ := r_told r86 hw gm6 e40 e132 (fun v hv => tk_lt hw hv) (nI d) (nI n)
  have lg := f7.lay r86.1
  have e8 := r_giveBack (h := hI (hI g 114 5 (nI d)) 114 6 (nI n)) lg
  let h9 := wI (hI (hI g 114 5 (nI d)) 114 6 (nI n)) 114 (setF ((hI (hI g 114 5 (nI d)) 114 6 (nI n)).2.1 114) 100 48 (fun k => (hI (hI g 114 5 (nI d)) 114 6 (nI n)).2.1 133 k))
  have f36 : FR h3 g [114, 129, 130, 132, 134] [] [] [39, 40, 41] := ((f4'.mono (by decide) (by decide) (by decide) (by decide)).tr (f6.mono (by decide) (by decide) (by decide) (by decide))).tr (f7.mono (by decide) (by decide) (by decide) (by decide))
  have f39 : FR h3 h9 [114, 129, 130, 132, 134] [] [] [39, 40, 41] := ((f36.tr (FR.hI (by decide) (by decide) (by decide))).tr (FR.hI (by decide) (by decide) (by decide))).tr (FR.wI (by decide) (by decide) (by decide))
  have f09 : FR h h9 [114, 129, 130, 132, 133, 134] [] [] [39, 40, 41] := f3.tr (f39.mono (by decide) (by decide) (by decide) (by decide))
  have g114 : g.2.1 114 = h6.2.1 114 := f7.I 114 (by decide) (by decide) (by decide)
  have g133 : g.2.1 133 = h3.2.1 133 := f36.I 133 (by decide) (by decide) (by decide)
  have same : h9.2.1 114 = h.2.1 114 := by
    funext k
    show (wI (hI (hI g 114 5 (nI d)) 114 6 (nI n)) 114 _).2.1 114 k = _
    rw [wI_s]
    by_cases h1 : 100 ≤ k ∧ k < 100 + 48
    · obtain ⟨i, rfl⟩ : ∃ i, k = 100 + i := ⟨k - 100, by omega⟩
      rw [setF_in (by omega), rI_ne (by decide), rI_ne (by decide), g133]
      show (wI h 133 (setF (h.2.1 133) 0 48 (fun k => h.2.1 114 (100 + k)))).2.1 133 i = _
      rw [wI_s, setF_in0 (by omega)]
    · rw [setF_out (by omega)]
      by_cases h6 : k = 6
      · rw [h6, rI_eq, m6]
      · rw [rI_nk h6]
        by_cases h5 : k = 5
        · rw [h5, rI_eq, m5]
        · rw [rI_nk h5, g114]
          by_cases h7 : k = 7
          · rw [h7, kp6.2, kp5.2]
          · rcases Nat.lt_or_ge k 148 with u | u
            · have a1 := r86.2.1.1 k (by omega) h5 h6 h7
              have a2 := hc.1 k (by omega) h5 h6 h7
              rw [Nat.zero_add] at a1 a2
              rw [a1, a2]
            · rw [kp6.1 k u, kp5.1 k u]
  refine ⟨h9, t, e, ?_, fr_drop f09 same, gm6, ?_, hrc, fun j hj => ?_⟩
  · have e4' : f_X12_drawsTruth (hI (hI (hI (wI h 133 (setF (h.2.1 133) 0 48 (fun k => h.2.1 114 (100 + k)))) 114 5 (nI 0)) 114 6 (nI 0)) 113 39 (nI seed)) 113 = some h4 := e4
    have l4 := f4.lay l3
    rw [e8] at e7
    simp (disch := first | assumption | omega | decide | ((repeat first | apply lyI | apply lyJ | apply lywI | apply lywJ | apply csI | apply csJ | apply cswI | apply cswJ); assumption)) only [f_X12_sits, SM, LI, ↓li_m1, nI_add, pk_mul, nn_sub, nn_m1, nn_div, nn_rem, nn_nz, nn_mod, nJ_l, lN_add, lN_mul, nn_tb1, nI_bt, nn_and, nn_or, nn_xor, nn_shr, nn_1shl, nn_31, il_p, il_n, it_p, it_n, ie_p, ie_n, ie_b, ie_b1, ie_m, ie_mm, it_m, it_m0, il_m0, bI_rZ, Option.bind_some, bd2_some, Nat.add_zero, Nat.zero_add, if_true, if_false, Bool.false_eq_true, eq_self, hI_R, hJ_R, ng_t, ng_e, m5, m6, r1, e4', e6, e7]
    rfl
  · show (hI (hI g 114 5 (nI d)) 114 6 (nI n)).2.1 113 41 = _
    rw [rI_ne (by decide), rI_ne (by decide), f7.2.2.2.2.2 41 List.not_mem_nil]
    exact e41
  · show (wI (hI (hI g 114 5 (nI d)) 114 6 (nI n)) 114 _).2.1 134 j = _
    rw [wI_n (by decide), rI_ne (by decide), rI_ne (by decide)]
    exact tl j hj
