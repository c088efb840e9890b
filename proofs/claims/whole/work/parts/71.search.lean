/-! ===== the search ahead ===== -/
theorem or16 {a b c d : Nat} (ha : a < 16) (hc : c < 16) : (16 * b + a) ||| (16 * d + c) = 16 * (b ||| d) + (a ||| c) := by
  have hac : a ||| c < 2 ^ 4 := Nat.or_lt_two_pow ha hc
  apply Nat.eq_of_testBit_eq
  intro i
  rw [Nat.testBit_or, show (16 : Nat) = 2 ^ 4 from rfl, Nat.testBit_two_pow_mul_add b (show a < 2 ^ 4 from ha), Nat.testBit_two_pow_mul_add d (show c < 2 ^ 4 from hc), Nat.testBit_two_pow_mul_add _ hac]
  split
  · rw [Nat.testBit_or]
  · rw [Nat.testBit_or]
theorem pk4_or {f g : Nat → Nat} (hf : ∀ u, u < 4 → f u < 16) (hg : ∀ u, u < 4 → g u < 16) : pk4 f ||| pk4 g = pk4 (fun u => f u ||| g u) := by
  unfold pk4
  rw [or16 (hf 0 (by decide)) (hg 0 (by decide)), or16 (hf 1 (by decide)) (hg 1 (by decide)), or16 (hf 2 (by decide)) (hg 2 (by decide))]
theorem pk4_congr {f g : Nat → Nat} (h : ∀ u, u < 4 → f u = g u) : pk4 f = pk4 g := by
  unfold pk4
  rw [h 0 (by decide), h 1 (by decide), h 2 (by decide), h 3 (by decide)]
theorem msk1 : ∀ v, v < 4 → nI 65535 &&& ((nI 15 <<< nI (v * 4)) ^^^ m1) = nI (pk4 (fun u => if u = v then 0 else 15)) := by decide +kernel
theorem msk2 : ∀ v, v < 4 → ∀ k, k < 16 → nI k <<< nI (v * 4) = nI (pk4 (fun u => if u = v then k else 0)) := by decide +kernel
theorem put4 {g : Nat → Nat} (hg : ∀ u, u < 4 → g u < 16) {v k : Nat} (hv : v < 4) (hk : k < 16) : (nI (pk4 g) &&& ((nI 15 <<< nI (v * 4)) ^^^ m1)) ||| (nI k <<< nI (v * 4)) = nI (pk4 (fun u => if u = v then k else g u)) := by
  have l1 := pk4_lt hg
  have e1 : nI (pk4 g) = nI (pk4 g) &&& nI 65535 := by
    rw [nn_and, show (65535 : Nat) = 2 ^ 16 - 1 from rfl, Nat.and_two_pow_sub_one_eq_mod, Nat.mod_eq_of_lt (by omega)]
  have z : ∀ u, u < 4 → (if u = v then 0 else 15) < 16 := fun u _ => by split <;> decide
  have z2 : ∀ u, u < 4 → (if u = v then k else 0) < 16 := fun u _ => by split <;> omega
  rw [e1, Int32.and_assoc, msk1 v hv, msk2 v hv k hk, nn_and, nn_or, pk4_and hg z, pk4_or (fun u hu => Nat.lt_of_le_of_lt Nat.and_le_left (hg u hu)) z2]
  refine congrArg nI (pk4_congr (fun u hu => ?_))
  by_cases hx : u = v
  · rw [if_pos hx, if_pos hx, if_pos hx, Nat.and_zero, Nat.zero_or]
  · rw [if_neg hx, if_neg hx, if_neg hx, Nat.or_zero, and15, Nat.mod_eq_of_lt (hg u hu)]
/-- the kinds of all witnesses in a world -/
def k4 (A : Nat → Nat) (F : Nat → Nat → Nat) (w u : Nat) : Nat := if u < A 4 then F u w else 15
theorem k4_lt {A : Nat → Nat} {F : Nat → Nat → Nat} (hF : ∀ v w, F v w < 16) (w : Nat) : ∀ u, u < 4 → k4 A F w u < 16 := fun u _ => by
  unfold k4
  split
  · exact hF u w
  · decide
/-- the level l of the search -/
def WL (h : aH) (A : Nat → Nat) (P : Nat → Bool) (l : Nat) (F : Nat → Nat → Nat) : Prop := h.2.1 64 l = nI (cntB (lfB A P F) (A 2)) ∧ ∀ j, j < cntB (lfB A P F) (A 2) → h.2.1 62 (256 * l + j) = nI (alN (lfB A P F) (A 2) j) ∧ h.2.1 63 (256 * l + j) = nI (pk4 (k4 A F (alN (lfB A P F) (A 2) j)))
def SQ (h : aH) (gl : Nat) (bi : Int32) : Prop := h.2.1 61 7 = nI gl ∧ h.2.1 61 8 = bi
/-- what the search may change, from level l on -/
def SF (h g : aH) (l : Nat) : Prop := FR h g [62, 63, 64] [] [] [] ∧ (∀ x, x < 256 * (l + 1) → g.2.1 62 x = h.2.1 62 x ∧ g.2.1 63 x = h.2.1 63 x) ∧ ∀ x, x ≤ l → g.2.1 64 x = h.2.1 64 x
theorem sf_rf {h : aH} {l : Nat} : SF h h l := ⟨FR.rf, fun _ _ => ⟨rfl, rfl⟩, fun _ _ => rfl⟩
theorem sf_tr {h g k : aH} {l : Nat} (a : SF h g l) (b : SF g k l) : SF h k l := ⟨a.1.tr b.1, fun x hx => ⟨(b.2.1 x hx).1.trans (a.2.1 x hx).1, (b.2.1 x hx).2.trans (a.2.1 x hx).2⟩, fun x hx => (b.2.2 x hx).trans (a.2.2 x hx)⟩
theorem sf_mono {h g : aH} {l m : Nat} (a : SF h g m) (hl : l ≤ m) : SF h g l := ⟨a.1, fun x hx => a.2.1 x (by omega), fun x hx => a.2.2 x (by omega)⟩
theorem sf_wl {h g : aH} {A : Nat → Nat} {P : Nat → Bool} {l : Nat} {F : Nat → Nat → Nat} (h2 : A 2 ≤ 256) (a : SF h g l) (w : WL h A P l F) : WL g A P l F := by
  have cle := cntB_le (lfB A P F) (A 2)
  refine ⟨(a.2.2 l (Nat.le_refl l)).trans w.1, fun j hj => ?_⟩
  obtain ⟨x1, x2⟩ := a.2.1 (256 * l + j) (by omega)
  rw [x1, x2]
  exact w.2 j hj
theorem sf_sq {h g : aH} {l gl : Nat} {bi : Int32} (a : SF h g l) (s : SQ h gl bi) : SQ g gl bi := by
  unfold SQ
  rw [a.1.I 61 (by decide) (by decide) (by decide)]
  exact s
theorem sf_r {h g : aH} {l c : Nat} (a : SF h g l) (s : h.2.2.2 52 4 = some c) : g.2.2.2 52 4 = some c := by
  rw [a.1.2.1]
  exact s
theorem k_desc {h : aH} {c : Nat} (hs : CS h c) {A : Nat → Nat} {P : Nat → Bool} {Q : Nat → Nat → Bool} {S : Nat → Nat → Nat → Nat → Nat} (hc : CC h c A P Q S) (hw : WF A) (hl : LAY h) (hf : h.2.2.2 52 4 = some c) {l v q a : Nat} {F : Nat → Nat → Nat} (hF : ∀ v w, F v w < 16) (wl : WL h A P l F) (hl2 : l < 2) (hv : v < A 4) (hq : q < A 3) (ha : a < 24) : ∃ h', f_X9_descend h 61 (nI l) (nI v) (nI q) (nI a) = some h' ∧ SF h h' l ∧ WL h' A P (l + 1) (anF S v q a F) := by
  obtain ⟨b0, b1, b2l, b2, b3, b4⟩ := wf_b hw
  have cle := cntB_le (lfB A P F) (A 2)
  have an := al_N (lfB A P F) (A 2)
  let al : Nat → Nat := alN (lfB A P F) (A 2)
  let qw : Nat → Bool := fun w => F v w &&& kfN S v q w a != 0
  let qa : Nat → Bool := fun j => qw (al j)
  have cq : ∀ w, w ≤ A 2 → cntB qa (cntB (lfB A P F) w) = cntB (lfB A P (anF S v q a F)) w := fun w hw => by
    have := al_cnt (q := qw) (n := w) (p := lfB A P F) (al := al) (fun x hx hp => an x (by omega) hp)
    rw [show cntB qa (cntB (lfB A P F) w) = cntB (fun j => qw (al j)) (cntB (lfB A P F) w) from rfl, this]
    exact cntB_congr (fun x _ => (an_lf hv).symm)
  have e : ∃ e, f_X9_descend_l27 61 (nI l) (nI v) (nI q) (nI a) (nI (l * 256)) (nI (l * 256 + 256)) (nI (v * 4)) (nI 0) (nI (l * 256)) h = some e ∧ ∃ h', e = (nI (cntB qa (cntB (lfB A P F) (A 2))), h') ∧ SF h h' l ∧ ∀ j, j < cntB (lfB A P F) (A 2) → qa j = true → h'.2.1 62 (256 * (l + 1) + cntB qa j) = nI (al j) ∧ h'.2.1 63 (256 * (l + 1) + cntB qa j) = nI (pk4 (k4 A (anF S v q a F) (al j))) := by
    refine forI (fun i (s : Int32 × Int32 × aH) => ∃ g, s = (nI (cntB qa i), nI (l * 256 + i), g) ∧ SF h g l ∧ ∀ j, j < i → qa j = true → g.2.1 62 (256 * (l + 1) + cntB qa j) = nI (al j) ∧ g.2.1 63 (256 * (l + 1) + cntB qa j) = nI (pk4 (k4 A (anF S v q a F) (al j)))) _ (cntB (lfB A P F) (A 2)) (by omega) ⟨h, by simp only [Nat.add_zero, cntB], sf_rf, fun j hj => absurd hj (by omega)⟩ ?_ ?_
    · rintro i _ hi ⟨g, rfl, fg, i1⟩
      have lg := fg.1.lay hl
      have sg := cs_fr fg.1 hs
      have cg := cc_fr fg.1 (by decide) hs hc
      have hfg := sf_r fg hf
      have wg := sf_wl b2 fg wl
      obtain ⟨a1, a2, a3⟩ := al_at an i hi
      have ap : P (al i) = true := by
        have := a2
        unfold lfB at this
        rw [Bool.and_eq_true] at this
        exact this.1
      have x0 : g.2.1 64 l = nI (cntB (lfB A P F) (A 2)) := wg.1
      obtain ⟨x1, x2⟩ := wg.2 i hi
      rw [Nat.mul_comm] at x1 x2
      have x1' : g.2.1 62 (l * 256 + i) = nI (al i) := x1
      have x2' : g.2.1 63 (l * 256 + i) = nI (pk4 (k4 A F (al i))) := x2
      have kl := k4_lt (A := A) hF (al i)
      have p4 := pk4_lt kl
      have pa := pk4_at kl (show v < 4 by omega)
      have kv : k4 A F (al i) v = F v (al i) := if_pos hv
      rw [kv] at pa
      have r1 := c_packed sg cg hw hv hq (show al i < A 2 from a1) ap
      have sb := (cg.2.2.2.2.2.2 v q (al i) hv hq a1 ap).2
      have r2 := c_kinds (h := g) (s := S v q (al i)) (fun i hi => by have := sb i hi; omega) (a := a) (by omega)
      have r2' : f_X1_kindsAnswering g (nI (pk5 (S v q (al i)))) (nI a) = some (nI (kfN S v q (al i) a)) := r2
      have fl := hF v (al i)
      have su : F v (al i) &&& kfN S v q (al i) a < 16 := Nat.lt_of_le_of_lt Nat.and_le_left fl
      have cqi := cntB_le qa i
      by_cases hx : F v (al i) &&& kfN S v q (al i) a = 0
      · have hqi : qa i = false := by
          show (_ != 0) = false
          rw [hx]
          rfl
        refine ⟨(nI (cntB qa (i + 1)), nI (l * 256 + (i + 1)), g), by simp (disch := first | assumption | omega | decide | ((repeat first | apply lyI | apply lyJ | apply lywI | apply lywJ | apply csI | apply csJ | apply cswI | apply cswJ); assumption)) only [f_X9_descend_b27, f_X9_descend_j145, SS, SH52, SC, LI, ↓li_m1, nI_add, pk_mul, nn_sub, nn_m1, nn_div, nn_rem, nn_nz, nn_mod, nJ_l, lN_add, lN_mul, nn_tb1, nI_bt, nn_and, nn_or, nn_xor, nn_shr, nn_1shl, nn_31, il_p, il_n, it_p, it_n, ie_p, ie_n, ie_b, ie_b1, ie_m, ie_mm, it_m, it_m0, il_m0, bI_rZ, Option.bind_some, bd2_some, Nat.add_zero, Nat.zero_add, if_true, if_false, Bool.false_eq_true, eq_self, hI_R, hJ_R, x0, x1', x2', hfg, pa, r1, r2', hx, cntB_f hqi, Nat.add_assoc], g, rfl, fg, fun j hj hqj => ?_⟩
        rcases Nat.lt_or_ge j i with u | u
        · exact i1 j u hqj
        · rw [show j = i by omega, hqi] at hqj
          cases hqj
      · have hqi : qa i = true := by
          show (_ != 0) = true
          simpa using hx
        have p5 := put4 kl (show v < 4 by omega) su
        have e6 : pk4 (fun u => if u = v then F v (al i) &&& kfN S v q (al i) a else k4 A F (al i) u) = pk4 (k4 A (anF S v q a F) (al i)) := by
          refine pk4_congr (fun u hu => ?_)
          unfold k4 anF
          by_cases h1 : u = v
          · rw [if_pos h1, h1, if_pos hv, if_pos rfl]
          · rw [if_neg h1, if_neg h1]
        rw [e6] at p5
        have y2 : ∀ x, (hI g 62 x (nI (al i))).2.1 63 (l * 256 + i) = nI (pk4 (k4 A F (al i))) := fun _ => x2'
        refine ⟨(nI (cntB qa (i + 1)), nI (l * 256 + (i + 1)), hI (hI g 62 (l * 256 + 256 + cntB qa i) (nI (al i))) 63 (l * 256 + 256 + cntB qa i) (nI (pk4 (k4 A (anF S v q a F) (al i))))), ?_, _, rfl, sf_tr fg ⟨(FR.hI (by decide) (by decide) (by decide)).tr (FR.hI (by decide) (by decide) (by decide)), fun x hx2 => ?_, fun x hx2 => rfl⟩, fun j hj hqj => ?_⟩
        · have su' : nI (F v (al i)) &&& nI (kfN S v q (al i) a) = nI (F v (al i) &&& kfN S v q (al i) a) := nn_and _ _
          have sh' : nI (v * 4) &&& nI 31 = nI (v * 4) := by rw [nn_and, nn_31 (by omega)]
          have pa' : (nI (pk4 (k4 A F (al i))) >>> nI (v * 4)) &&& nI 15 = nI (F v (al i)) := by rw [nn_shr (by omega) (by omega), nn_and, pa]
          simp (disch := first | assumption | omega | decide | ((repeat first | apply lyI | apply lyJ | apply lywI | apply lywJ | apply csI | apply csJ | apply cswI | apply cswJ); assumption)) only [f_X9_descend_b27, f_X9_descend_j145, SS, SH52, SC, LI, ↓li_m1, nI_add, pk_mul, nn_sub, nn_m1, nn_div, nn_rem, nn_nz, nn_mod, nJ_l, lN_add, lN_mul, nn_tb1, nI_bt, nn_1shl, nn_31, il_p, il_n, it_p, it_n, ie_p, ie_n, ie_b, ie_b1, ie_m, ie_mm, it_m, it_m0, il_m0, bI_rZ, Option.bind_some, bd2_some, Nat.add_zero, Nat.zero_add, if_true, if_false, Bool.false_eq_true, eq_self, hI_R, hJ_R, x0, x1', x2', y2, hfg, sh', pa', su', r1, r2', p5, cntB_t hqi, Nat.add_assoc]
        · refine ⟨?_, ?_⟩
          · show (hI g 62 _ _).2.1 62 x = _
            rw [rI_hI, if_neg (fun e => by omega)]
          · rw [rI_hI, if_neg (fun e => by omega)]
            rfl
        · rw [show l * 256 + 256 + cntB qa i = 256 * (l + 1) + cntB qa i by omega]
          rcases Nat.lt_or_ge j i with u | u
          · have := cntB_lt u hqj
            obtain ⟨z1, z2⟩ := i1 j u hqj
            refine ⟨?_, ?_⟩
            · show (hI g 62 _ _).2.1 62 _ = _
              rw [rI_hI, if_neg (fun e => by omega)]
              exact z1
            · rw [rI_hI, if_neg (fun e => by omega)]
              exact z2
          · obtain rfl : j = i := by omega
            refine ⟨?_, ?_⟩
            · show (hI g 62 _ _).2.1 62 _ = _
              rw [rI_hI, if_pos ⟨rfl, rfl⟩]
            · rw [rI_hI, if_pos ⟨rfl, rfl⟩]
    · rintro _ ⟨g, rfl, fg, i1⟩
      have lg := fg.1.lay hl
      have x0 : g.2.1 64 l = nI (cntB (lfB A P F) (A 2)) := (sf_wl b2 fg wl).1
      exact ⟨_, by simp (disch := first | assumption | omega | decide | ((repeat first | apply lyI | apply lyJ | apply lywI | apply lywJ | apply csI | apply csJ | apply cswI | apply cswJ); assumption)) only [f_X9_descend_b27, f_X9_descend_j145, SS, LI, ↓li_m1, nI_add, pk_mul, nn_sub, nn_m1, nn_div, nn_rem, nn_nz, nn_mod, nJ_l, lN_add, lN_mul, nn_tb1, nI_bt, nn_and, nn_or, nn_xor, nn_shr, nn_1shl, nn_31, il_p, il_n, it_p, it_n, ie_p, ie_n, ie_b, ie_b1, ie_m, ie_mm, it_m, it_m0, il_m0, bI_rZ, Option.bind_some, bd2_some, Nat.add_zero, Nat.zero_add, if_true, if_false, Bool.false_eq_true, eq_self, hI_R, hJ_R, x0]; try rfl, g, rfl, fg, i1⟩
  obtain ⟨_, e1, g, rfl, fg, i1⟩ := e
  have lg := fg.1.lay hl
  refine ⟨hI g 64 (l + 1) (nI (cntB (lfB A P (anF S v q a F)) (A 2))), ?_, sf_tr fg ⟨FR.hI (by decide) (by decide) (by decide), fun x _ => ⟨rfl, rfl⟩, fun x hx => ?_⟩, ?_, fun j hj => ?_⟩
  · rw [← cq _ (Nat.le_refl _)]
    simp (disch := first | assumption | omega | decide | ((repeat first | apply lyI | apply lyJ | apply lywI | apply lywJ | apply csI | apply csJ | apply cswI | apply cswJ); assumption)) only [f_X9_descend, SS, LI, ↓li_m1, nI_add, pk_mul, nn_sub, nn_m1, nn_div, nn_rem, nn_nz, nn_mod, nJ_l, lN_add, lN_mul, nn_tb1, nI_bt, nn_and, nn_or, nn_xor, nn_shr, nn_1shl, nn_31, il_p, il_n, it_p, it_n, ie_p, ie_n, ie_b, ie_b1, ie_m, ie_mm, it_m, it_m0, il_m0, bI_rZ, Option.bind_some, bd2_some, Nat.add_zero, Nat.zero_add, if_true, if_false, Bool.false_eq_true, eq_self, hI_R, hJ_R, e1]
  · rw [rI_hI, if_neg (fun e => by omega)]
  · rw [rI_hI, if_pos ⟨rfl, rfl⟩]
  · obtain ⟨w1, w2, w3⟩ := al_at (al_N (lfB A P (anF S v q a F)) (A 2)) j hj
    have w2' := w2
    rw [an_lf hv, Bool.and_eq_true] at w2'
    have ea : al (cntB (lfB A P F) (alN (lfB A P (anF S v q a F)) (A 2) j)) = alN (lfB A P (anF S v q a F)) (A 2) j := an _ w1 w2'.1
    have := i1 (cntB (lfB A P F) (alN (lfB A P (anF S v q a F)) (A 2) j)) (cntB_lt w1 w2'.1) (by
      show qw (al _) = true
      rw [ea]
      exact w2'.2)
    rw [cq _ (by omega), w3, ea] at this
    exact this
