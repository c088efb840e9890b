/-! ===== cases: the class reads kinds ===== -/
def kE (v : Nat) (e : aH ⊕ aH ⊕ aH ⊕ (Int32 × Int32 × aH)) : Option (Int32 × aH) := match e with
  | .inl h35 => (gR h35 2 42 0).bind fun t36 => (ck h35 4 t36).bind fun _ => bd2 (f_X4_refuseHere h35 t36 (2 : Int32)) fun t37 h38 => (rZ t37).bind fun t39 => some (t39, h38)
  | .inr (.inl h40) => (gR h40 2 42 0).bind fun t41 => (ck h40 4 t41).bind fun _ => bd2 (f_X4_refuseHere h40 t41 (5 : Int32)) fun t42 h43 => (rZ t42).bind fun t44 => some (t44, h43)
  | .inr (.inr (.inl h45)) => some ((0 : Int32), h45)
  | .inr (.inr (.inr (t46, t47, h48))) => f_X2_readKinds_j146 h48 42 (nI v) t46 t47
theorem is_k {h : aH} {t : Nat} (ht : t < 35) : f_X2_isKind h (nI t) = some (bI (kdB t)) := by
  have : ∀ t, t < 35 → (if nI t < (21 : Int32) then some (0 : Int32) else if (24 : Int32) < nI t then some (0 : Int32) else some (1 : Int32)) = some (bI (kdB t)) := by decide +kernel
  exact this t ht
def OKc (h0 : aH) (c : Nat) (T : Nat → Nat) (n m : Nat) (A : Nat → Nat) (K : Nat) (C : Nat → Nat) (V : Nat → List Nat) (Bv : Nat → Nat) (Q : Nat → Nat → Bool) (x : Option (Int32 × aH)) (o : (Nat × Nat) ⊕ (Nat × (Nat → Nat) × Nat)) : Prop := match o with
  | .inl (f, q) => f ≠ 0 ∧ f < 100 ∧ ∃ h', x = some (nI 0, h') ∧ FR h0 h' (LCc c) (LJc c) [] [] ∧ FL h' f q
  | .inr (j, W, s) => ∃ g, x = f_X2_readKinds_j146 g 42 (nI (A 4)) (nI (kbN W)) (nI s) ∧ DCk h0 g c T n m j A (wP A K W 0) C V Bv Q
theorem x_kN {h0 : aH} {c : Nat} {T : Nat → Nat} {n m : Nat} {A C : Nat → Nat} {V : Nat → List Nat} {Bv : Nat → Nat} {Q : Nat → Nat → Bool} {K : Nat} (h4 : A 4 < 4) (b0 : A 0 ≤ 4) (b1 : A 1 ≤ 24) (b3 : A 3 ≤ 12) : ∀ (gf x j F : Nat) (g : aH) (W : Nat → Nat) (s : Nat), x + gf = 901 → gf < F → m < j + gf → KWa W s → DCk h0 g c T n m j A (wP A K W 0) C V Bv Q → OKc h0 c T n m A K C V Bv Q ((whileL F (fun q : Int32 × Int32 × Int32 × aH => f_X2_readKinds_b7 42 (nI (A 4)) q.1 q.2.1 q.2.2.1 q.2.2.2) (nI (kbN W), nI s, nI x, g)).bind (kE (A 4))) (kN T n gf x j W s)
  | 0, x, j, F, g, W, s, hx, hF, hm, kw, d => absurd hm (by have := d.2.1.2.2.2; omega)
  | gf + 1, x, j, F, g, W, s, hx, hF, hm, kw, d => by
    obtain ⟨F', rfl⟩ := ex_s hF
    obtain ⟨d1, lc, hs, h6, nc, dca, dn, dw⟩ := id d
    have hl := lc.1
    have c0 := hs.1
    have e10 : g.2.1 4 10 = nI (tcI T n j) := lc.2.2.1.2.1
    have tl := tc_le (T := T) (n := n) (i := j)
    have ik := is_k (h := g) tl
    have kl := kb_lt (W := W)
    have ks : s ≤ 64 := by
      obtain ⟨k1, k2, k3⟩ := kw
      have := k1 0
      have := k1 1
      have := k1 2
      have := k1 3
      omega
    cases hk : kdB (tcI T n j) with
    | false =>
      rw [hk, bI_f] at ik
      by_cases hx0 : x = 0
      · have ek : kN T n (gf + 1) x j W s = .inl (fkN T n j 2, frI T n j) := by
          show (if kdB (tcI T n j) = false then _ else _) = _
          rw [if_pos hk, if_neg (fun z => z hx0)]
        obtain ⟨h', r, f, l⟩ := x_ref lc 2
        obtain ⟨k1, k2⟩ := fk_b (T := T) (n := n) (i := j) (k := 2) (by decide) (by decide)
        have e : f_X2_readKinds_b7 42 (nI (A 4)) (nI (kbN W)) (nI s) (nI x) g = some (.inr (.inl g)) := by
          subst hx0
          simp (disch := first | assumption | omega | decide | ((repeat first | apply lyI | apply lyJ | apply lywI | apply lywJ | apply csI | apply csJ | apply cswI | apply cswJ); assumption)) only [f_X2_readKinds_b7, f_X2_readKinds_j33, SR, SX, LI, ↓li_m1, nI_add, pk_mul, nn_sub, nn_m1, nn_div, nn_rem, nn_nz, nn_mod, nJ_l, lN_add, lN_mul, nn_tb1, nI_bt, nn_and, nn_or, nn_xor, nn_shr, nn_1shl, nn_31, il_p, il_n, it_p, it_n, ie_p, ie_n, ie_b, ie_b1, ie_m, ie_mm, it_m, it_m0, il_m0, bI_rZ, Option.bind_some, bd2_some, Nat.add_zero, Nat.zero_add, if_true, if_false, Bool.false_eq_true, eq_self, hI_R, hJ_R, ng_t, ng_e, e10, ik]
        rw [wl_r e, ek]
        exact ⟨k1, k2, h', by show kE (A 4) (.inl g) = _; simp (disch := first | assumption | omega | decide | ((repeat first | apply lyI | apply lyJ | apply lywI | apply lywJ | apply csI | apply csJ | apply cswI | apply cswJ); assumption)) only [kE, SR, SX, LI, ↓li_m1, nI_add, pk_mul, nn_sub, nn_m1, nn_div, nn_rem, nn_nz, nn_mod, nJ_l, lN_add, lN_mul, nn_tb1, nI_bt, nn_and, nn_or, nn_xor, nn_shr, nn_1shl, nn_31, il_p, il_n, it_p, it_n, ie_p, ie_n, ie_b, ie_b1, ie_m, ie_mm, it_m, it_m0, il_m0, bI_rZ, Option.bind_some, bd2_some, Nat.add_zero, Nat.zero_add, if_true, if_false, Bool.false_eq_true, eq_self, hI_R, hJ_R, ng_t, ng_e, r, rz0], d1.tr (f.mono lcc_4 ljc_4 (by simp) (by simp)), l⟩
      · have ek : kN T n (gf + 1) x j W s = .inr (j, W, s) := by
          show (if kdB (tcI T n j) = false then _ else _) = _
          rw [if_pos hk, if_pos hx0]
        have nx : ¬ nI x = nI 0 := d_ne (by omega) (by decide) hx0
        have e : f_X2_readKinds_b7 42 (nI (A 4)) (nI (kbN W)) (nI s) (nI x) g = some (.inr (.inr (.inr (.inr (nI (kbN W), nI s, g))))) := by simp (disch := first | assumption | omega | decide | ((repeat first | apply lyI | apply lyJ | apply lywI | apply lywJ | apply csI | apply csJ | apply cswI | apply cswJ); assumption)) only [f_X2_readKinds_b7, SR, SX, LI, ↓li_m1, nI_add, pk_mul, nn_sub, nn_m1, nn_div, nn_rem, nn_nz, nn_mod, nJ_l, lN_add, lN_mul, nn_tb1, nI_bt, nn_and, nn_or, nn_xor, nn_shr, nn_1shl, nn_31, il_p, il_n, it_p, it_n, ie_p, ie_n, ie_b, ie_b1, ie_m, ie_mm, it_m, it_m0, il_m0, bI_rZ, Option.bind_some, bd2_some, Nat.add_zero, Nat.zero_add, if_true, if_false, Bool.false_eq_true, eq_self, hI_R, hJ_R, ng_t, ng_e, if_neg nx, e10, ik]
        rw [wl_r e, ek]
        exact ⟨g, rfl, d⟩
    | true =>
      rw [hk, bI_t] at ik
      obtain ⟨t1, t2⟩ := kd_i hk
      have ek : kN T n (gf + 1) x j W s = (if W (tcI T n j - 21) ≠ 0 then .inl (5, frI T n j) else if tcI T n (j + 1) = 2 ∧ 1 ≤ nuI T n (j + 1) ∧ nuI T n (j + 1) ≤ 16 then kN T n gf (x + 1) (j + 2) (upN W (tcI T n j - 21) (nuI T n (j + 1))) (s + nuI T n (j + 1)) else .inl (fkN T n (j + 1) (if tcI T n (j + 1) = 2 then 4 else 2), frI T n (j + 1))) := by
        show (if kdB (tcI T n j) = false then _ else _) = _
        rw [if_neg (by rw [hk]; decide)]
      have eb : f_X2_readKinds_b7 42 (nI (A 4)) (nI (kbN W)) (nI s) (nI x) g = f_X2_readKinds_j33 g 42 (nI (A 4)) (nI (kbN W)) (nI s) (nI x) := by
        by_cases h0 : x = 0
        · subst h0
          simp (disch := first | assumption | omega | decide | ((repeat first | apply lyI | apply lyJ | apply lywI | apply lywJ | apply csI | apply csJ | apply cswI | apply cswJ); assumption)) only [f_X2_readKinds_b7, LI, ↓li_m1, nI_add, pk_mul, nn_sub, nn_m1, nn_div, nn_rem, nn_nz, nn_mod, nJ_l, lN_add, lN_mul, nn_tb1, nI_bt, nn_and, nn_or, nn_xor, nn_shr, nn_1shl, nn_31, il_p, il_n, it_p, it_n, ie_p, ie_n, ie_b, ie_b1, ie_m, ie_mm, it_m, it_m0, il_m0, bI_rZ, Option.bind_some, bd2_some, Nat.add_zero, Nat.zero_add, if_true, if_false, Bool.false_eq_true, eq_self, hI_R, hJ_R, ng_t, ng_e]
        · have nx : ¬ nI x = nI 0 := d_ne (by omega) (by decide) h0
          simp (disch := first | assumption | omega | decide | ((repeat first | apply lyI | apply lyJ | apply lywI | apply lywJ | apply csI | apply csJ | apply cswI | apply cswJ); assumption)) only [f_X2_readKinds_b7, SR, SX, LI, ↓li_m1, nI_add, pk_mul, nn_sub, nn_m1, nn_div, nn_rem, nn_nz, nn_mod, nJ_l, lN_add, lN_mul, nn_tb1, nI_bt, nn_and, nn_or, nn_xor, nn_shr, nn_1shl, nn_31, il_p, il_n, it_p, it_n, ie_p, ie_n, ie_b, ie_b1, ie_m, ie_mm, it_m, it_m0, il_m0, bI_rZ, Option.bind_some, bd2_some, Nat.add_zero, Nat.zero_add, if_true, if_false, Bool.false_eq_true, eq_self, hI_R, hJ_R, ng_t, ng_e, if_neg nx, e10, ik]
      have bt := kb_bit (W := W) (k := tcI T n j - 21) (by omega)
      by_cases hw : W (tcI T n j - 21) ≠ 0
      · rw [decide_eq_false hw, show (!false) = true from rfl] at bt
        obtain ⟨h', r, f, l⟩ := x_ref lc 5
        rw [fk_n (by omega)] at l
        have e : f_X2_readKinds_b7 42 (nI (A 4)) (nI (kbN W)) (nI s) (nI x) g = some (.inr (.inr (.inl g))) := by
          rw [eb]
          simp (disch := first | assumption | omega | decide | ((repeat first | apply lyI | apply lyJ | apply lywI | apply lywJ | apply csI | apply csJ | apply cswI | apply cswJ); assumption)) only [f_X2_readKinds_j33, SR, SX, LI, ↓li_m1, nI_add, pk_mul, nn_sub, nn_m1, nn_div, nn_rem, nn_nz, nn_mod, nJ_l, lN_add, lN_mul, nn_tb1, nI_bt, nn_and, nn_or, nn_xor, nn_shr, nn_1shl, nn_31, il_p, il_n, it_p, it_n, ie_p, ie_n, ie_b, ie_b1, ie_m, ie_mm, it_m, it_m0, il_m0, bI_rZ, Option.bind_some, bd2_some, Nat.add_zero, Nat.zero_add, if_true, if_false, Bool.false_eq_true, eq_self, hI_R, hJ_R, ng_t, ng_e, e10, ik, bt]
        rw [wl_r e, ek, if_pos hw]
        exact ⟨by decide, by decide, h', by show kE (A 4) (.inr (.inl g)) = _; simp (disch := first | assumption | omega | decide | ((repeat first | apply lyI | apply lyJ | apply lywI | apply lywJ | apply csI | apply csJ | apply cswI | apply cswJ); assumption)) only [kE, SR, SX, LI, ↓li_m1, nI_add, pk_mul, nn_sub, nn_m1, nn_div, nn_rem, nn_nz, nn_mod, nJ_l, lN_add, lN_mul, nn_tb1, nI_bt, nn_and, nn_or, nn_xor, nn_shr, nn_1shl, nn_31, il_p, il_n, it_p, it_n, ie_p, ie_n, ie_b, ie_b1, ie_m, ie_mm, it_m, it_m0, il_m0, bI_rZ, Option.bind_some, bd2_some, Nat.add_zero, Nat.zero_add, if_true, if_false, Bool.false_eq_true, eq_self, hI_R, hJ_R, ng_t, ng_e, r, rz0], d1.tr (f.mono lcc_4 ljc_4 (by simp) (by simp)), l⟩
      · have w0 : W (tcI T n j - 21) = 0 := by omega
        rw [decide_eq_true w0, show (!true) = false from rfl] at bt
        obtain ⟨h1, ad, f1, lc1⟩ := x_adv lc (lc_lt lc (by omega))
        have l1 := lc1.1
        have d2 := dck_4 d f1 lc1
        rw [ek, if_neg hw]
        rcases x_number lc1 (lo := 1) (hi' := 16) (by decide) (by decide) with ⟨t8, n0, n9, h2, r2, f2, lc2⟩ | ⟨nt, h2, r2, f2, l2⟩
        · rw [if_pos ⟨t8, n0, n9⟩]
          have l2 := lc2.1
          have d3 := dck_4 d2 f2 lc2
          have s3 := d3.2.2.1
          have h26 := d3.2.2.2.1
          have kq : tcI T n j - 21 < 4 := by omega
          let h3 := hI h2 (c + 12) (A 4 * 4 + (tcI T n j - 21)) (nI (nuI T n (j + 1)))
          have f3 : FR h2 h3 [c + 12] [] [] [] := FR.hI (by simp) (by omega) (by omega)
          have lc3 := lc_fr f3 (by intro y hy; simp at hy; omega) (by simp) lc2
          have e : f_X2_readKinds_b7 42 (nI (A 4)) (nI (kbN W)) (nI s) (nI x) g = some (.inl (nI (kbN W ||| 2 ^ (tcI T n j - 21)), nI (s + nuI T n (j + 1)), nI (x + 1), h3)) := by
            rw [eb]
            show _ = some (Sum.inl (nI (kbN W ||| 2 ^ (tcI T n j - 21)), nI (s + nuI T n (j + 1)), nI (x + 1), hI h2 (c + 12) (A 4 * 4 + (tcI T n j - 21)) (nI (nuI T n (j + 1)))))
            simp (disch := first | assumption | omega | decide | ((repeat first | apply lyI | apply lyJ | apply lywI | apply lywJ | apply csI | apply csJ | apply cswI | apply cswJ); assumption)) only [f_X2_readKinds_j33, SR, SX, SC, LI, ↓li_m1, nI_add, pk_mul, nn_sub, nn_m1, nn_div, nn_rem, nn_nz, nn_mod, nJ_l, lN_add, lN_mul, nn_tb1, nI_bt, nn_and, nn_or, nn_xor, nn_shr, nn_1shl, nn_31, il_p, il_n, it_p, it_n, ie_p, ie_n, ie_b, ie_b1, ie_m, ie_mm, it_m, it_m0, il_m0, bI_rZ, Option.bind_some, bd2_some, Nat.add_zero, Nat.zero_add, if_true, if_false, Bool.false_eq_true, eq_self, hI_R, hJ_R, ng_t, ng_e, e10, ik, bt, ad, r2, h26]
          have da : DCa h3 c (wP A K (upN W (tcI T n j - 21) (nuI T n (j + 1))) 0) := by
            obtain ⟨⟨g12, g13, g14, g16, g17, g18⟩, gf', gv, gq, gw⟩ := d3.2.2.2.2.2.1
            obtain ⟨gw1, gw2, gw3⟩ := gw (A 4) h4
            rw [wp_k.1] at gw2
            rw [wp_k.2] at gw3
            refine dca_w (h := h2) (K := K) (W := W) (H := 0) h4 (fun k => ?_) (fun j' hj' => ?_) (fun y hy => ?_) (fun k hk => ?_) (fun y hy => ?_) ?_ (fun y hy => ?_) ?_ d3.2.2.2.2.2.1 b0 b1 b3
            · rw [f3.I c (by simp) (by omega) (by omega)]
            · exact f3.I _ (by simp at hj' ⊢; omega) (by simp at hj'; omega) (by simp at hj'; omega)
            · show (hI h2 (c + 12) (A 4 * 4 + (tcI T n j - 21)) (nI (nuI T n (j + 1)))).2.1 (c + 12) y = _
              rw [rI_nk (by omega)]
            · show (hI h2 (c + 12) (A 4 * 4 + (tcI T n j - 21)) (nI (nuI T n (j + 1)))).2.1 (c + 12) (A 4 * 4 + k) = _
              by_cases ee : k = tcI T n j - 21
              · rw [ee, rI_eq, up_e]
              · rw [rI_nk (by omega), up_n ee, gw1 k hk, wp_w hk]
            · rw [f3.I (c + 13) (by simp) (by omega) (by omega)]
            · rw [f3.I (c + 13) (by simp) (by omega) (by omega)]
              exact gw2
            · rw [f3.I (c + 14) (by simp) (by omega) (by omega)]
            · rw [f3.I (c + 14) (by simp) (by omega) (by omega)]
              exact gw3
          have d4 := dck_fr d3 (f3.mono (by simp) (by simp) (by simp) (by simp)) lc3 (by rw [f3.I c (by simp) (by omega) (by omega)]) da
          rw [wl_l e, ← kb_up kq w0 n0]
          exact x_kN h4 b0 b1 b3 gf (x + 1) (j + 2) F' h3 _ _ (by omega) (by omega) (by omega) (kw_up kw kq w0 n9) d4
        · rw [if_neg nt]
          obtain ⟨k1, k2⟩ := fk_b (T := T) (n := n) (i := j + 1) (k := if tcI T n (j + 1) = 2 then 4 else 2) (by split <;> decide) (by split <;> decide)
          have e : f_X2_readKinds_b7 42 (nI (A 4)) (nI (kbN W)) (nI s) (nI x) g = some (.inr (.inr (.inr (.inl h2)))) := by
            rw [eb]
            simp (disch := first | assumption | omega | decide | ((repeat first | apply lyI | apply lyJ | apply lywI | apply lywJ | apply csI | apply csJ | apply cswI | apply cswJ); assumption)) only [f_X2_readKinds_j33, SR, SX, LI, ↓li_m1, nI_add, pk_mul, nn_sub, nn_m1, nn_div, nn_rem, nn_nz, nn_mod, nJ_l, lN_add, lN_mul, nn_tb1, nI_bt, nn_and, nn_or, nn_xor, nn_shr, nn_1shl, nn_31, il_p, il_n, it_p, it_n, ie_p, ie_n, ie_b, ie_b1, ie_m, ie_mm, it_m, it_m0, il_m0, bI_rZ, Option.bind_some, bd2_some, Nat.add_zero, Nat.zero_add, if_true, if_false, Bool.false_eq_true, eq_self, hI_R, hJ_R, ng_t, ng_e, e10, ik, bt, ad, r2]
          rw [wl_r e]
          exact ⟨k1, k2, h2, rfl, d1.tr ((f1.tr f2).mono lcc_4 ljc_4 (by simp) (by simp)), l2⟩
theorem mask5 : ∀ v, v < 4 → ∀ k, k < 16 → nI 65535 &&& (((nI 15 <<< nI (v * 4)) ^^^ m1) ||| (nI k <<< nI (v * 4))) = nI (pk4 (fun u => if u = v then k else 15)) := by decide +kernel
def mkN (A : Nat → Nat) (W : Nat → Nat) : Nat → Nat := fun u => if u = A 4 then kbN W else myN A u
theorem mask_e {A W : Nat → Nat} (h4 : A 4 < 4) : nI (pk4 (myN A)) &&& (((nI 15 <<< nI (A 4 * 4)) ^^^ m1) ||| (nI (kbN W) <<< nI (A 4 * 4))) = nI (pk4 (mkN A W)) := by
  have hm : ∀ u, u < 4 → myN A u < 16 := fun u _ => myN_lt u
  have pl := pk4_lt hm
  have e1 : nI (pk4 (myN A)) = nI (pk4 (myN A)) &&& nI 65535 := by
    rw [nn_and, show (65535 : Nat) = 2 ^ 16 - 1 from rfl, Nat.and_two_pow_sub_one_eq_mod, Nat.mod_eq_of_lt pl]
  have hk : ∀ u, u < 4 → (if u = A 4 then kbN W else 15) < 16 := fun u _ => by
    split
    · exact kb_lt
    · decide
  rw [e1, Int32.and_assoc, mask5 (A 4) h4 (kbN W) kb_lt, nn_and, pk4_and hm hk]
  congr 1
  have e : ∀ u, u < 4 → (myN A u &&& (if u = A 4 then kbN W else 15)) = mkN A W u := fun u hu => by
    unfold mkN
    by_cases eu : u = A 4
    · rw [if_pos eu, if_pos eu]
      unfold myN
      rw [if_neg (by omega), Nat.and_comm, show (15 : Nat) = 2 ^ 4 - 1 from rfl, Nat.and_two_pow_sub_one_eq_mod, Nat.mod_eq_of_lt kb_lt]
    · rw [if_neg eu, if_neg eu, show (15 : Nat) = 2 ^ 4 - 1 from rfl, Nat.and_two_pow_sub_one_eq_mod, Nat.mod_eq_of_lt (myN_lt u)]
  unfold pk4
  simp only [e 0 (by decide), e 1 (by decide), e 2 (by decide), e 3 (by decide)]
def kO (T : Nat → Nat) (n j : Nat) : (Nat × Nat) ⊕ (Nat × (Nat → Nat)) := match kN T n 901 0 j W00 0 with
  | .inl e => .inl e
  | .inr (j', W, s) => if tcI T n j' ≠ 17 ∧ tcI T n j' ≠ 3 then .inl (fkN T n j' 2, frI T n j') else if s ≠ 16 then .inl (8, frI T n j') else .inr (j', W)
def OKd (h0 : aH) (c : Nat) (T : Nat → Nat) (n m : Nat) (A : Nat → Nat) (K : Nat) (C : Nat → Nat) (V : Nat → List Nat) (Bv : Nat → Nat) (Q : Nat → Nat → Bool) (x : Option (Int32 × aH)) (o : (Nat × Nat) ⊕ (Nat × (Nat → Nat))) : Prop := match o with
  | .inl (f, q) => f ≠ 0 ∧ f < 100 ∧ ∃ h', x = some (nI 0, h') ∧ FR h0 h' (LCc c) (LJc c) [] [] ∧ FL h' f q
  | .inr (j, W) => ∃ g, x = some (nI 1, hI g c 18 (nI (pk4 (mkN A W)))) ∧ DCk h0 g c T n m j A (wP A K W 0) C V Bv Q
theorem x_kinds {h0 h : aH} {c : Nat} {T : Nat → Nat} {n m j : Nat} {A C : Nat → Nat} {V : Nat → List Nat} {Bv : Nat → Nat} {Q : Nat → Nat → Bool} {K : Nat} (h4 : A 4 < 4) (b0 : A 0 ≤ 4) (b1 : A 1 ≤ 24) (b3 : A 3 ≤ 12) (d : DCk h0 h c T n m j A (wP A K W00 0) C V Bv Q) : OKd h0 c T n m A K C V Bv Q (f_X2_readKinds h 42 (nI (A 4))) (kO T n j) := by
  have hm := (lx_t d.2.1).1
  have hj := d.2.1.2.2.2
  have o := x_kN h4 b0 b1 b3 901 0 j wN h W00 0 rfl (by rw [wN_e]; omega) (by omega) ⟨fun _ => Nat.zero_le _, fun _ _ => rfl, rfl⟩ d
  have e : f_X2_readKinds h 42 (nI (A 4)) = (f_X2_readKinds_l7 42 (nI (A 4)) (nI (kbN W00)) (nI 0) (nI 0) h).bind (kE (A 4)) := by
    show (f_X2_readKinds_l7 42 (nI (A 4)) (0 : Int32) (0 : Int32) (0 : Int32) h).bind _ = _
    first | rfl | congr 1
  have o' : OKc h0 c T n m A K C V Bv Q (f_X2_readKinds h 42 (nI (A 4))) (kN T n 901 0 j W00 0) := by
    rw [e]
    exact o
  obtain ⟨-, ht⟩ := lx_t d.2.1
  unfold kO
  cases hk : kN T n 901 0 j W00 0 with
  | inl q =>
    obtain ⟨a, b⟩ := q
    rw [hk] at o'
    exact o'
  | inr q =>
    obtain ⟨j', W, s⟩ := q
    rw [hk] at o'
    obtain ⟨g, eg, dg⟩ := o'
    obtain ⟨d1, lc, hs, h6, nc, dca, dn, dw⟩ := id dg
    have lg := lc.1
    have c0 := hs.1
    have e10 : g.2.1 4 10 = nI (tcI T n j') := lc.2.2.1.2.1
    have tl := tc_le (T := T) (n := n) (i := j')
    obtain ⟨p1, p2, p3, p4⟩ := kN_ok hm ht 901 0 j W00 0 hj (by omega) ⟨fun _ => Nat.zero_le _, fun _ _ => rfl, rfl⟩ j' W s hk
    have ks : s ≤ 64 := by
      obtain ⟨k1, k2, k3⟩ := p4
      have := k1 0
      have := k1 1
      have := k1 2
      have := k1 3
      omega
    rw [eg]
    show OKd h0 c T n m A K C V Bv Q _ (if tcI T n j' ≠ 17 ∧ tcI T n j' ≠ 3 then .inl (fkN T n j' 2, frI T n j') else if s ≠ 16 then .inl (8, frI T n j') else .inr (j', W))
    by_cases h1 : tcI T n j' ≠ 17 ∧ tcI T n j' ≠ 3
    · rw [if_pos h1]
      obtain ⟨h', r, f, l⟩ := x_ref lc 2
      obtain ⟨k1, k2⟩ := fk_b (T := T) (n := n) (i := j') (k := 2) (by decide) (by decide)
      have n17 : ¬ nI (tcI T n j') = nI 17 := d_ne (by omega) (by decide) h1.1
      have n3 : ¬ nI (tcI T n j') = nI 3 := d_ne (by omega) (by decide) h1.2
      exact ⟨k1, k2, h', by simp (disch := first | assumption | omega | decide | ((repeat first | apply lyI | apply lyJ | apply lywI | apply lywJ | apply csI | apply csJ | apply cswI | apply cswJ); assumption)) only [f_X2_readKinds_j146, SR, SX, LI, ↓li_m1, nI_add, pk_mul, nn_sub, nn_m1, nn_div, nn_rem, nn_nz, nn_mod, nJ_l, lN_add, lN_mul, nn_tb1, nI_bt, nn_and, nn_or, nn_xor, nn_shr, nn_1shl, nn_31, il_p, il_n, it_p, it_n, ie_p, ie_n, ie_b, ie_b1, ie_m, ie_mm, it_m, it_m0, il_m0, bI_rZ, Option.bind_some, bd2_some, Nat.add_zero, Nat.zero_add, if_true, if_false, Bool.false_eq_true, eq_self, hI_R, hJ_R, ng_t, ng_e, e10, if_neg n17, if_neg n3, r, rz0], d1.tr (f.mono lcc_4 ljc_4 (by simp) (by simp)), l⟩
    · rw [if_neg h1]
      have g18 : g.2.1 c 18 = nI (pk4 (myN A)) := by
        have := dca.1.2.2.2.2.2
        rw [this]
        congr 1
        have e : ∀ u, u < 4 → myN (wP A K W 0) u = myN A u := fun u hu => by
          unfold myN mayN
          rw [show wP A K W 0 4 = A 4 from wp_n (by omega)]
          by_cases hu4 : u < A 4
          · rw [if_pos hu4, if_pos hu4]
            exact orN_congr (fun k hk => by rw [wp_n (by omega)])
          · rw [if_neg hu4, if_neg hu4]
        unfold pk4
        rw [e 0 (by decide), e 1 (by decide), e 2 (by decide), e 3 (by decide)]
      have mk := mask_e (W := W) h4
      have e146 : f_X2_readKinds_j146 g 42 (nI (A 4)) (nI (kbN W)) (nI s) = f_X2_readKinds_j178 g 42 (nI (A 4)) (nI (kbN W)) (nI s) := by
        by_cases t17 : tcI T n j' = 17
        · rw [t17] at e10
          simp (disch := first | assumption | omega | decide | ((repeat first | apply lyI | apply lyJ | apply lywI | apply lywJ | apply csI | apply csJ | apply cswI | apply cswJ); assumption)) only [f_X2_readKinds_j146, SR, SX, LI, ↓li_m1, nI_add, pk_mul, nn_sub, nn_m1, nn_div, nn_rem, nn_nz, nn_mod, nJ_l, lN_add, lN_mul, nn_tb1, nI_bt, nn_and, nn_or, nn_xor, nn_shr, nn_1shl, nn_31, il_p, il_n, it_p, it_n, ie_p, ie_n, ie_b, ie_b1, ie_m, ie_mm, it_m, it_m0, il_m0, bI_rZ, Option.bind_some, bd2_some, Nat.add_zero, Nat.zero_add, if_true, if_false, Bool.false_eq_true, eq_self, hI_R, hJ_R, ng_t, ng_e, e10]
        · have t3 : tcI T n j' = 3 := by omega
          rw [t3] at e10
          simp (disch := first | assumption | omega | decide | ((repeat first | apply lyI | apply lyJ | apply lywI | apply lywJ | apply csI | apply csJ | apply cswI | apply cswJ); assumption)) only [f_X2_readKinds_j146, SR, SX, LI, ↓li_m1, nI_add, pk_mul, nn_sub, nn_m1, nn_div, nn_rem, nn_nz, nn_mod, nJ_l, lN_add, lN_mul, nn_tb1, nI_bt, nn_and, nn_or, nn_xor, nn_shr, nn_1shl, nn_31, il_p, il_n, it_p, it_n, ie_p, ie_n, ie_b, ie_b1, ie_m, ie_mm, it_m, it_m0, il_m0, bI_rZ, Option.bind_some, bd2_some, Nat.add_zero, Nat.zero_add, if_true, if_false, Bool.false_eq_true, eq_self, hI_R, hJ_R, ng_t, ng_e, e10]
      have v4 : A 4 * 4 < 32 := by omega
      have a31 : nI (A 4 * 4) &&& nI 31 = nI (A 4 * 4) := by rw [nn_and, show (31 : Nat) = 2 ^ 5 - 1 from rfl, Nat.and_two_pow_sub_one_eq_mod, Nat.mod_eq_of_lt (by omega)]
      have e178 : f_X2_readKinds_j178 g 42 (nI (A 4)) (nI (kbN W)) (nI s) = (if nI s = nI 16 then some (nI 1, hI g c 18 (nI (pk4 (mkN A W)))) else (gR (hI g c 18 (nI (pk4 (mkN A W)))) 2 42 0).bind fun t4 => (ck (hI g c 18 (nI (pk4 (mkN A W)))) 4 t4).bind fun _ => bd2 (f_X4_refuseHere (hI g c 18 (nI (pk4 (mkN A W)))) t4 (nI 8)) fun t5 h6 => if t5 = nI 0 then some (nI 0, h6) else some (nI 1, h6)) := by
        simp (disch := first | assumption | omega | decide | ((repeat first | apply lyI | apply lyJ | apply lywI | apply lywJ | apply csI | apply csJ | apply cswI | apply cswJ); assumption)) only [f_X2_readKinds_j178, SR, SC, LI, ↓li_m1, nI_add, pk_mul, nn_sub, nn_m1, nn_div, nn_rem, nn_nz, nn_mod, nJ_l, lN_add, lN_mul, nn_tb1, nI_bt, nn_shr, nn_31, il_p, il_n, it_p, it_n, ie_p, ie_n, ie_b, ie_b1, ie_m, ie_mm, it_m, it_m0, il_m0, bI_rZ, Option.bind_some, bd2_some, Nat.add_zero, Nat.zero_add, if_true, if_false, Bool.false_eq_true, eq_self, hI_R, hJ_R, ng_t, ng_e, h6, g18, a31, mk]
      rw [e146, e178]
      by_cases h16 : s = 16
      · have eo : (if s ≠ 16 then (Sum.inl (8, frI T n j') : (Nat × Nat) ⊕ (Nat × (Nat → Nat))) else .inr (j', W)) = .inr (j', W) := if_neg (fun z => z h16)
        have ei : nI s = nI 16 := by rw [h16]
        rw [eo, if_pos ei]
        exact ⟨g, rfl, dg⟩
      · have eo : (if s ≠ 16 then (Sum.inl (8, frI T n j') : (Nat × Nat) ⊕ (Nat × (Nat → Nat))) else .inr (j', W)) = .inl (8, frI T n j') := if_pos h16
        rw [eo, if_neg (d_ne (by omega) (by decide) h16)]
        have fg : FR g (hI g c 18 (nI (pk4 (mkN A W)))) [c] [] [] [] := FR.hI (by simp) (by omega) (by omega)
        have lc2 := lc_fr fg (by intro y hy; simp at hy; omega) (by simp) lc
        have l2 := lc2.1
        obtain ⟨h', r, f, l⟩ := x_ref lc2 8
        rw [fk_n (by omega)] at l
        exact ⟨by decide, by decide, h', by simp (disch := first | assumption | omega | decide | ((repeat first | apply lyI | apply lyJ | apply lywI | apply lywJ | apply csI | apply csJ | apply cswI | apply cswJ); assumption)) only [SR, SX, LI, ↓li_m1, nI_add, pk_mul, nn_sub, nn_m1, nn_div, nn_rem, nn_nz, nn_mod, nJ_l, lN_add, lN_mul, nn_tb1, nI_bt, nn_and, nn_or, nn_xor, nn_shr, nn_1shl, nn_31, il_p, il_n, it_p, it_n, ie_p, ie_n, ie_b, ie_b1, ie_m, ie_mm, it_m, it_m0, il_m0, bI_rZ, Option.bind_some, bd2_some, Nat.add_zero, Nat.zero_add, if_true, if_false, Bool.false_eq_true, eq_self, hI_R, hJ_R, ng_t, ng_e, r], d1.tr ((fg.mono (by intro x hx; unfold LCc; simp at hx ⊢; omega) (by simp) (by simp) (by simp)).tr (f.mono lcc_4 ljc_4 (by simp) (by simp))), l⟩
