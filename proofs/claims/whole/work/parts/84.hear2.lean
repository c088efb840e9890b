/-! ===== hear, unsay, nextDay ===== -/
theorem rI_eq {h : aH} {a k : Nat} {x : Int32} : (hI h a k x).2.1 a k = x := by rw [rI_hI, if_pos ⟨rfl, rfl⟩]
theorem rI_ne {h : aH} {a k i j : Nat} {x : Int32} (hn : i ≠ a) : (hI h a k x).2.1 i j = h.2.1 i j := by rw [rI_hI, if_neg (fun e => hn e.1)]
theorem rI_nk {h : aH} {a k j : Nat} {x : Int32} (hn : j ≠ k) : (hI h a k x).2.1 a j = h.2.1 a j := by rw [rI_hI, if_neg (fun e => hn e.2)]
theorem rJ_eq {h : aH} {a k : Nat} {x : Int64} : (hJ h a k x).2.2.1 a k = x := by rw [rJ_hJ, if_pos ⟨rfl, rfl⟩]
theorem rJ_ne {h : aH} {a k i j : Nat} {x : Int64} (hn : i ≠ a) : (hJ h a k x).2.2.1 i j = h.2.2.1 i j := by rw [rJ_hJ, if_neg (fun e => hn e.1)]
theorem rJ_nk {h : aH} {a k j : Nat} {x : Int64} (hn : j ≠ k) : (hJ h a k x).2.2.1 a j = h.2.2.1 a j := by rw [rJ_hJ, if_neg (fun e => hn e.2)]
theorem rI_J {h : aH} {a k : Nat} {x : Int32} : (hI h a k x).2.2.1 = h.2.2.1 := rfl
theorem rJ_I {h : aH} {a k : Nat} {x : Int64} : (hJ h a k x).2.1 = h.2.1 := rfl
theorem fc_congr {S : Nat → Nat → Nat → Nat → Nat} {M N : Nat → Nat → Nat} {w u : Nat} : ∀ {n}, (∀ k i, k < n → M k i = N k i) → fcN S M w u n = fcN S N w u n
  | 0, _ => rfl
  | n + 1, h => by
    show (if M n 0 = u then fcN S M w u n &&& kfN S u (M n 1) w (M n 2) else fcN S M w u n) = (if N n 0 = u then fcN S N w u n &&& kfN S u (N n 1) w (N n 2) else fcN S N w u n)
    rw [fc_congr (fun k i hk => h k i (by omega)), h n 0 (by omega), h n 1 (by omega), h n 2 (by omega)]
theorem lv_congr {A : Nat → Nat} {P : Nat → Bool} {S : Nat → Nat → Nat → Nat → Nat} {M N : Nat → Nat → Nat} {n : Nat} (h : ∀ k i, k < n → M k i = N k i) : lvB A P S M n = lvB A P S N n := funext fun w => by
  unfold lvB
  refine congrArg (P w && ·) (allB_congr (fun v _ => ?_))
  rw [fc_congr h]
theorem hr_congr {g : aH} {H : Nat} {A : Nat → Nat} {P : Nat → Bool} {S : Nat → Nat → Nat → Nat → Nat} {M N : Nat → Nat → Nat} {n : Nat} (h : ∀ k i, k < n → M k i = N k i) (hr : HR g H A P S M n) : HR g H A P S N n := by
  unfold HR at hr ⊢
  rw [lv_congr h] at hr
  refine ⟨hr.1, ?_, fun w h1 h2 => ?_, hr.2.2.2⟩
  · rw [hr.2.1]
    exact congrArg nI (orN_congr (fun i hi => by rw [h i 1 hi]))
  · rw [hr.2.2.1 w h1 h2]
    exact congrArg nI (congrArg pk4 (funext fun u => fc_congr h))
/-- the minutes with one answer more -/
def adM (M : Nat → Nat → Nat) (n v q a d : Nat) : Nat → Nat → Nat := fun k i => if k = n then (if i = 0 then v else if i = 1 then q else if i = 2 then a else d) else M k i
theorem ad_lt {M : Nat → Nat → Nat} {n v q a d k i : Nat} (hk : k < n) : adM M n v q a d k i = M k i := if_neg (by omega)
theorem ad_0 {M : Nat → Nat → Nat} {n v q a d : Nat} : adM M n v q a d n 0 = v ∧ adM M n v q a d n 1 = q ∧ adM M n v q a d n 2 = a ∧ adM M n v q a d n 3 = d := by
  unfold adM
  simp
theorem put_cnt {M : Nat → Nat → Nat} {m : Nat} : ∀ {n}, (∀ k, k < n → M k 1 < m) → (∀ i j, i < n → j < n → M i 1 = M j 1 → i = j) → cntB (putN M n) m = n
  | 0, _, _ => cntB_0.mpr (fun _ _ => rfl)
  | n + 1, h1, h2 => by
    have ih := put_cnt (M := M) (m := m) (n := n) (fun k hk => h1 k (by omega)) (fun i j hi hj => h2 i j (by omega) (by omega))
    have nw : putN M n (M n 1) = false := anyB_f.mpr (fun k hk => beq_eq_false_iff_ne.mpr (fun e => by
      have := h2 k n (by omega) (by omega) e
      omega))
    have up : ∀ x, putN M (n + 1) x = (putN M n x || M n 1 == x) := fun _ => rfl
    have : ∀ b, cntB (putN M (n + 1)) b = cntB (putN M n) b + (if M n 1 < b then 1 else 0) := fun b => by
      induction b with
      | zero => rfl
      | succ b ih2 =>
        show cntB (putN M (n + 1)) b + (putN M (n + 1) b).toNat = cntB (putN M n) b + (putN M n b).toNat + _
        rw [ih2, up]
        by_cases hb : M n 1 = b
        · subst hb
          rw [nw]
          simp
        · rw [beq_eq_false_iff_ne.mpr hb, Bool.or_false]
          by_cases hlt : M n 1 < b
          · rw [if_pos hlt, if_pos (by omega)]
            omega
          · rw [if_neg hlt, if_neg (by omega)]
            omega
    rw [this, ih, if_pos (h1 n (by omega))]
/-- the days: at most nine questions today, none of a day to come -/
def DI (n d : Nat) (M : Nat → Nat → Nat) : Prop := cntB (fun k => M k 3 == d) n ≤ 9 ∧ ∀ k, k < n → M k 3 ≤ d
theorem mw_add {A : Nat → Nat} (hw : WF A) {n d v q a : Nat} {M : Nat → Nat → Nat} (mw : MW A n d M) (hv : v < A 4) (hq : q < A 3) (ha : a < 2 * A 3) (hp : putN M n q = false) : MW A (n + 1) d (adM M n v q a d) := by
  obtain ⟨mn, md, mk, mi⟩ := mw
  have b3 := hw.2.1
  obtain ⟨z0, z1, z2, z3⟩ := ad_0 (M := M) (n := n) (v := v) (q := q) (a := a) (d := d)
  have k1 : ∀ k, k < n + 1 → adM M n v q a d k 0 < A 4 ∧ adM M n v q a d k 1 < A 3 ∧ adM M n v q a d k 2 < 2 * A 3 ∧ adM M n v q a d k 3 < 1000 := fun k hk => by
    rcases Nat.lt_or_ge k n with u | u
    · rw [ad_lt u, ad_lt u, ad_lt u, ad_lt u]
      exact mk k u
    · obtain rfl : k = n := by omega
      rw [z0, z1, z2, z3]
      exact ⟨hv, hq, ha, md⟩
  have np : ∀ i, i < n → M i 1 ≠ q := fun i hi e => by
    have := anyB_f.mp hp i hi
    simp [e] at this
  have k2 : ∀ i j, i < n + 1 → j < n + 1 → adM M n v q a d i 1 = adM M n v q a d j 1 → i = j := fun i j hi hj e => by
    rcases Nat.lt_or_ge i n with u | u <;> rcases Nat.lt_or_ge j n with u2 | u2
    · rw [ad_lt u, ad_lt u2] at e
      exact mi i j u u2 e
    · obtain rfl : j = n := by omega
      rw [ad_lt u, z1] at e
      exact absurd e (np i u)
    · obtain rfl : i = n := by omega
      rw [ad_lt u2, z1] at e
      exact absurd e.symm (np j u2)
    · omega
  have c := put_cnt (M := adM M n v q a d) (m := A 3) (fun k hk => (k1 k hk).2.1) k2
  have cl := cntB_le (putN (adM M n v q a d) (n + 1)) (A 3)
  exact ⟨by omega, md, k1, k2⟩
theorem di_add {n d v q a : Nat} {M : Nat → Nat → Nat} (di : DI n d M) (h9 : cntB (fun k => M k 3 == d) n < 9) : DI (n + 1) d (adM M n v q a d) := by
  obtain ⟨z0, z1, z2, z3⟩ := ad_0 (M := M) (n := n) (v := v) (q := q) (a := a) (d := d)
  refine ⟨?_, fun k hk => ?_⟩
  · rw [cntB_t (p := fun k => adM M n v q a d k 3 == d) (by show (_ == d) = true; rw [z3]; simp), cntB_congr (q := fun k => M k 3 == d) (fun i hi => by rw [ad_lt hi])]
    omega
  · rcases Nat.lt_or_ge k n with u | u
    · rw [ad_lt u]
      exact di.2 k u
    · obtain rfl : k = n := by omega
      rw [z3]
      exact Nat.le_refl _
theorem k_enter52 {h : aH} {c : Nat} (hs : CS h c) {A : Nat → Nat} {P : Nat → Bool} {Q : Nat → Nat → Bool} {S : Nat → Nat → Nat → Nat → Nat} (hc : CC h c A P Q S) (hw : WF A) (hl : LAY h) (hf : h.2.2.2 52 4 = some c) {n d : Nat} {M : Nat → Nat → Nat} (hm : MN h 53 n d M) (mw : MW A n d M) (hr : HR h 52 A P S M n) {v q a : Nat} (hv4 : v < A 4) (hq : q < A 3) (ha : a < 2 * A 3) (hp : putN M n q = false) : ∃ h', f_X3_enter h 52 (nI v) (nI q) (nI a) = some h' ∧ FR h h' [52, 53, 54, 55, 56, 57, 58, 59] [] [] [] ∧ MN h' 53 (n + 1) d (adM M n v q a d) ∧ HR h' 52 A P S (adM M n v q a d) (n + 1) := by
  obtain ⟨b0, b1, b2l, b2, b3, b4⟩ := wf_b hw
  have mw' := mw_add hw mw hv4 hq ha hp
  have n12 := mw'.1
  have m4 : h.2.1 53 4 = nI n := hm.1
  have m5 : h.2.1 53 5 = nI d := hm.2.1
  obtain ⟨z0, z1, z2, z3⟩ := ad_0 (M := M) (n := n) (v := v) (q := q) (a := a) (d := d)
  let h1 := hI (hI (hI (hI (hI h 54 n (nI v)) 55 n (nI q)) 56 n (nI a)) 57 n (nI d)) 53 4 (nI (n + 1))
  have f1 : FR h h1 [52, 53, 54, 55, 56, 57, 58, 59] [] [] [] := ((((FR.hI (by decide) (by decide) (by decide)).tr (FR.hI (by decide) (by decide) (by decide))).tr (FR.hI (by decide) (by decide) (by decide))).tr (FR.hI (by decide) (by decide) (by decide))).tr (FR.hI (by decide) (by decide) (by decide))
  have e1 : f_X6_add h 53 (nI v) (nI q) (nI a) = some h1 := by
    simp (disch := first | assumption | omega | decide | ((repeat first | apply lyI | apply lyJ | apply lywI | apply lywJ | apply csI | apply csJ | apply cswI | apply cswJ); assumption)) only [f_X6_add, SH52, rI_eq, rI_ne, rI_nk, rJ_eq, rJ_ne, rJ_nk, rI_J, rJ_I, LI, ↓li_m1, nI_add, pk_mul, nn_sub, nn_m1, nn_div, nn_rem, nn_nz, nn_mod, nJ_l, lN_add, lN_mul, nn_tb1, nI_bt, nn_and, nn_or, nn_xor, nn_shr, nn_1shl, nn_31, il_p, il_n, it_p, it_n, ie_p, ie_n, ie_b, ie_b1, ie_m, ie_mm, it_m, it_m0, il_m0, bI_rZ, Option.bind_some, bd2_some, Nat.add_zero, Nat.zero_add, if_true, if_false, Bool.false_eq_true, eq_self, hI_R, hJ_R, ng_t, ng_e, m4, m5]
    try rfl
  have mn1 : MN h1 53 (n + 1) d (adM M n v q a d) := by
    refine ⟨rfl, m5, fun k hk => ?_⟩
    obtain ⟨y0, y1, y2, y3⟩ : (k < n → h.2.1 54 k = nI (M k 0) ∧ h.2.1 55 k = nI (M k 1) ∧ h.2.1 56 k = nI (M k 2) ∧ h.2.1 57 k = nI (M k 3)) ∧ True ∧ True ∧ True := ⟨fun hk => hm.2.2 k hk, trivial, trivial, trivial⟩
    show (hI h 54 n (nI v)).2.1 54 k = _ ∧ (hI h 55 n (nI q)).2.1 55 k = _ ∧ (hI h 56 n (nI a)).2.1 56 k = _ ∧ (hI h 57 n (nI d)).2.1 57 k = _
    rw [rI_hI, rI_hI, rI_hI, rI_hI]
    rcases Nat.lt_or_ge k n with u | u
    · rw [if_neg (fun e => by omega), if_neg (fun e => by omega), if_neg (fun e => by omega), if_neg (fun e => by omega), ad_lt u, ad_lt u, ad_lt u, ad_lt u]
      exact y0 u
    · obtain rfl : k = n := by omega
      rw [if_pos ⟨rfl, rfl⟩, if_pos ⟨rfl, rfl⟩, if_pos ⟨rfl, rfl⟩, if_pos ⟨rfl, rfl⟩, z0, z1, z2, z3]
      exact ⟨rfl, rfl, rfl, rfl⟩
  have hr1 : HR h1 52 A P S (adM M n v q a d) n := hr_congr (fun k i hk => (ad_lt hk).symm) (show HR h1 52 A P S M n from hr)
  obtain ⟨h2, e2, f2, r2⟩ := k_narrow52 (cs_fr f1 hs) (cc_fr f1 (by decide) hs hc) hw (f1.lay hl) (show h1.2.2.2 52 4 = some c from hf) mn1 (show n < n + 1 by omega) mw' hr1
  have l1 : LAY h1 := f1.lay hl
  have m4' : h1.2.1 53 4 = nI (n + 1) := rfl
  refine ⟨h2, by simp (disch := first | assumption | omega | decide | ((repeat first | apply lyI | apply lyJ | apply lywI | apply lywJ | apply csI | apply csJ | apply cswI | apply cswJ); assumption)) only [f_X3_enter, SH52, LI, ↓li_m1, nI_add, pk_mul, nn_sub, nn_m1, nn_div, nn_rem, nn_nz, nn_mod, nJ_l, lN_add, lN_mul, nn_tb1, nI_bt, nn_and, nn_or, nn_xor, nn_shr, nn_1shl, nn_31, il_p, il_n, it_p, it_n, ie_p, ie_n, ie_b, ie_b1, ie_m, ie_mm, it_m, it_m0, il_m0, bI_rZ, Option.bind_some, bd2_some, Nat.add_zero, Nat.zero_add, if_true, if_false, Bool.false_eq_true, eq_self, hI_R, hJ_R, ng_t, ng_e, e1, m4', Nat.add_sub_cancel, e2], f1.tr (f2.mono (by decide) (by decide) (by decide) (by decide)), ?_, r2⟩
  unfold MN
  rw [f2.I 53 (by decide) (by decide) (by decide), f2.I (53 + 1) (by decide) (by decide) (by decide), f2.I (53 + 2) (by decide) (by decide) (by decide), f2.I (53 + 3) (by decide) (by decide) (by decide), f2.I (53 + 4) (by decide) (by decide) (by decide)]
  exact mn1
theorem k_enter68 {h : aH} {c : Nat} (hs : CS h c) {A : Nat → Nat} {P : Nat → Bool} {Q : Nat → Nat → Bool} {S : Nat → Nat → Nat → Nat → Nat} (hc : CC h c A P Q S) (hw : WF A) (hl : LAY h) (hf : h.2.2.2 68 4 = some c) {n d : Nat} {M : Nat → Nat → Nat} (hm : MN h 69 n d M) (mw : MW A n d M) (hr : HR h 68 A P S M n) {v q a : Nat} (hv4 : v < A 4) (hq : q < A 3) (ha : a < 2 * A 3) (hp : putN M n q = false) : ∃ h', f_X3_enter h 68 (nI v) (nI q) (nI a) = some h' ∧ FR h h' [68, 69, 70, 71, 72, 73, 74, 75] [] [] [] ∧ MN h' 69 (n + 1) d (adM M n v q a d) ∧ HR h' 68 A P S (adM M n v q a d) (n + 1) := by
  obtain ⟨b0, b1, b2l, b2, b3, b4⟩ := wf_b hw
  have mw' := mw_add hw mw hv4 hq ha hp
  have n12 := mw'.1
  have m4 : h.2.1 69 4 = nI n := hm.1
  have m5 : h.2.1 69 5 = nI d := hm.2.1
  obtain ⟨z0, z1, z2, z3⟩ := ad_0 (M := M) (n := n) (v := v) (q := q) (a := a) (d := d)
  let h1 := hI (hI (hI (hI (hI h 70 n (nI v)) 71 n (nI q)) 72 n (nI a)) 73 n (nI d)) 69 4 (nI (n + 1))
  have f1 : FR h h1 [68, 69, 70, 71, 72, 73, 74, 75] [] [] [] := ((((FR.hI (by decide) (by decide) (by decide)).tr (FR.hI (by decide) (by decide) (by decide))).tr (FR.hI (by decide) (by decide) (by decide))).tr (FR.hI (by decide) (by decide) (by decide))).tr (FR.hI (by decide) (by decide) (by decide))
  have e1 : f_X6_add h 69 (nI v) (nI q) (nI a) = some h1 := by
    simp (disch := first | assumption | omega | decide | ((repeat first | apply lyI | apply lyJ | apply lywI | apply lywJ | apply csI | apply csJ | apply cswI | apply cswJ); assumption)) only [f_X6_add, SH68, rI_eq, rI_ne, rI_nk, rJ_eq, rJ_ne, rJ_nk, rI_J, rJ_I, LI, ↓li_m1, nI_add, pk_mul, nn_sub, nn_m1, nn_div, nn_rem, nn_nz, nn_mod, nJ_l, lN_add, lN_mul, nn_tb1, nI_bt, nn_and, nn_or, nn_xor, nn_shr, nn_1shl, nn_31, il_p, il_n, it_p, it_n, ie_p, ie_n, ie_b, ie_b1, ie_m, ie_mm, it_m, it_m0, il_m0, bI_rZ, Option.bind_some, bd2_some, Nat.add_zero, Nat.zero_add, if_true, if_false, Bool.false_eq_true, eq_self, hI_R, hJ_R, ng_t, ng_e, m4, m5]
    try rfl
  have mn1 : MN h1 69 (n + 1) d (adM M n v q a d) := by
    refine ⟨rfl, m5, fun k hk => ?_⟩
    obtain ⟨y0, y1, y2, y3⟩ : (k < n → h.2.1 70 k = nI (M k 0) ∧ h.2.1 71 k = nI (M k 1) ∧ h.2.1 72 k = nI (M k 2) ∧ h.2.1 73 k = nI (M k 3)) ∧ True ∧ True ∧ True := ⟨fun hk => hm.2.2 k hk, trivial, trivial, trivial⟩
    show (hI h 70 n (nI v)).2.1 70 k = _ ∧ (hI h 71 n (nI q)).2.1 71 k = _ ∧ (hI h 72 n (nI a)).2.1 72 k = _ ∧ (hI h 73 n (nI d)).2.1 73 k = _
    rw [rI_hI, rI_hI, rI_hI, rI_hI]
    rcases Nat.lt_or_ge k n with u | u
    · rw [if_neg (fun e => by omega), if_neg (fun e => by omega), if_neg (fun e => by omega), if_neg (fun e => by omega), ad_lt u, ad_lt u, ad_lt u, ad_lt u]
      exact y0 u
    · obtain rfl : k = n := by omega
      rw [if_pos ⟨rfl, rfl⟩, if_pos ⟨rfl, rfl⟩, if_pos ⟨rfl, rfl⟩, if_pos ⟨rfl, rfl⟩, z0, z1, z2, z3]
      exact ⟨rfl, rfl, rfl, rfl⟩
  have hr1 : HR h1 68 A P S (adM M n v q a d) n := hr_congr (fun k i hk => (ad_lt hk).symm) (show HR h1 68 A P S M n from hr)
  obtain ⟨h2, e2, f2, r2⟩ := k_narrow68 (cs_fr f1 hs) (cc_fr f1 (by decide) hs hc) hw (f1.lay hl) (show h1.2.2.2 68 4 = some c from hf) mn1 (show n < n + 1 by omega) mw' hr1
  have l1 : LAY h1 := f1.lay hl
  have m4' : h1.2.1 69 4 = nI (n + 1) := rfl
  refine ⟨h2, by simp (disch := first | assumption | omega | decide | ((repeat first | apply lyI | apply lyJ | apply lywI | apply lywJ | apply csI | apply csJ | apply cswI | apply cswJ); assumption)) only [f_X3_enter, SH68, LI, ↓li_m1, nI_add, pk_mul, nn_sub, nn_m1, nn_div, nn_rem, nn_nz, nn_mod, nJ_l, lN_add, lN_mul, nn_tb1, nI_bt, nn_and, nn_or, nn_xor, nn_shr, nn_1shl, nn_31, il_p, il_n, it_p, it_n, ie_p, ie_n, ie_b, ie_b1, ie_m, ie_mm, it_m, it_m0, il_m0, bI_rZ, Option.bind_some, bd2_some, Nat.add_zero, Nat.zero_add, if_true, if_false, Bool.false_eq_true, eq_self, hI_R, hJ_R, ng_t, ng_e, e1, m4', Nat.add_sub_cancel, e2], f1.tr (f2.mono (by decide) (by decide) (by decide) (by decide)), ?_, r2⟩
  unfold MN
  rw [f2.I 69 (by decide) (by decide) (by decide), f2.I (69 + 1) (by decide) (by decide) (by decide), f2.I (69 + 2) (by decide) (by decide) (by decide), f2.I (69 + 3) (by decide) (by decide) (by decide), f2.I (69 + 4) (by decide) (by decide) (by decide)]
  exact mn1
/-- hear, unsay, nextDay: what they change -/
def HCI : List Nat := [52, 53, 54, 55, 56, 57, 58, 59, 60, 61, 62, 63, 64, 65, 76, 114, 129, 130, 131]
def HO (h : aH) (c : Nat) (A : Nat → Nat) (P : Nat → Bool) (Q : Nat → Nat → Bool) (S : Nat → Nat → Nat → Nat → Nat) (f g : aH → Option (Int32 × aH)) : Prop := ∃ r h1 h2, f h = some (r, h1) ∧ g h1 = some (r, h2) ∧ FR h h2 HCI [] [17] [3] ∧ ST h2 ∧ (∀ k, 100 ≤ k → ¬ (k < 148) → h2.2.1 114 k = h.2.1 114 k) ∧ h2.2.1 114 7 = h.2.1 114 7 ∧ ∃ n d M, KO h2 c A P Q S n d M ∧ RO h2 A P Q S n d M ∧ DI n d M ∧ d ≤ 99
theorem ho_qo {h : aH} {c : Nat} {A : Nat → Nat} {P : Nat → Bool} {Q : Nat → Nat → Bool} {S : Nat → Nat → Nat → Nat → Nat} {n d : Nat} {M : Nat → Nat → Nat} (ko : KO h c A P Q S n d M) (ro : RO h A P Q S n d M) (di : DI n d M) (hd : d ≤ 99) {f g : aH → Option (Int32 × aH)} (q : QO h f g) : HO h c A P Q S f g := by
  obtain ⟨r, h1, h2, e1, e2, f1, st⟩ := q
  have e114 := f1.I 114 (by decide) (by decide) (by decide)
  exact ⟨r, h1, h2, e1, e2, f1.mono (by decide) (by decide) (by decide) (by decide), st, fun k _ _ => by rw [e114], by rw [e114], n, d, M, ko_fr f1 (by decide) ko, ro_fr f1 (by decide) (by decide) (by decide) ro, di, hd⟩
/-- the reference's case, but for days and minutes -/
theorem cm_up {h h' : aH} {A : Nat → Nat} {P : Nat → Bool} {Q : Nat → Nat → Bool} (hc : CM h A P Q) (h1 : ∀ k, k < 100 → k ≠ 5 → k ≠ 6 → k ≠ 7 → h'.2.1 114 k = h.2.1 114 k) (h2 : h'.2.2.1 115 = h.2.2.1 115) : CM h' A P Q := by
  refine ⟨fun k k1 k2 k3 k4 => ?_, ?_⟩
  · rw [Nat.zero_add, h1 k k1 k2 k3 k4]
    have := hc.1 k k1 k2 k3 k4
    rwa [Nat.zero_add] at this
  · rw [h2]
    exact hc.2
theorem r_hears {h : aH} (hl : LAY h) {A : Nat → Nat} {P : Nat → Bool} {Q : Nat → Nat → Bool} (hc : CM h A P Q) (hw : WF A) {n d : Nat} {M : Nat → Nat → Nat} (hm : MM h n d M) (mw : MW A n d M) {v q a : Nat} (n12 : n + 1 ≤ 12) : ∃ h', f_X12_hears h 113 (nI v) (nI q) (nI a) = some h' ∧ FR h h' [114] [] [] [] ∧ CM h' A P Q ∧ MM h' (n + 1) d (adM M n v q a d) ∧ (∀ k, 100 ≤ k → ¬ (k < 148) → h'.2.1 114 k = h.2.1 114 k) ∧ h'.2.1 114 7 = h.2.1 114 7 := by
  obtain ⟨m5, m6, mM⟩ := hm
  obtain ⟨mn, md, mk, mi⟩ := mw
  obtain ⟨z0, z1, z2, z3⟩ := ad_0 (M := M) (n := n) (v := v) (q := q) (a := a) (d := d)
  refine ⟨hI (hI (hI (hI (hI h 114 (100 + 4 * n) (nI v)) 114 (100 + 4 * n + 1) (nI q)) 114 (100 + 4 * n + 2) (nI a)) 114 (100 + 4 * n + 3) (nI d)) 114 6 (nI (n + 1)), by simp (disch := first | assumption | omega | decide | ((repeat first | apply lyI | apply lyJ | apply lywI | apply lywJ | apply csI | apply csJ | apply cswI | apply cswJ); assumption)) only [f_X12_hears, SM, rI_eq, rI_ne, rI_nk, rJ_eq, rJ_ne, rJ_nk, rI_J, rJ_I, LI, ↓li_m1, nI_add, pk_mul, nn_sub, nn_m1, nn_div, nn_rem, nn_nz, nn_mod, nJ_l, lN_add, lN_mul, nn_tb1, nI_bt, nn_and, nn_or, nn_xor, nn_shr, nn_1shl, nn_31, il_p, il_n, it_p, it_n, ie_p, ie_n, ie_b, ie_b1, ie_m, ie_mm, it_m, it_m0, il_m0, bI_rZ, Option.bind_some, bd2_some, Nat.add_zero, Nat.zero_add, if_true, if_false, Bool.false_eq_true, eq_self, hI_R, hJ_R, ng_t, ng_e, m6, m5], (((((FR.hI (by decide) (by decide) (by decide)).tr (FR.hI (by decide) (by decide) (by decide))).tr (FR.hI (by decide) (by decide) (by decide))).tr (FR.hI (by decide) (by decide) (by decide))).tr (FR.hI (by decide) (by decide) (by decide))), cm_up hc (fun k k1 k2 k3 k4 => ?_) rfl, ⟨?_, ?_, fun k i hk hi => ?_⟩, fun k k1 k2 => ?_, ?_⟩
  · simp (disch := first | assumption | omega | decide | ((repeat first | apply lyI | apply lyJ | apply lywI | apply lywJ | apply csI | apply csJ | apply cswI | apply cswJ); assumption)) only [rI_eq, rI_ne, rI_nk, rJ_eq, rJ_ne, rJ_nk, rI_J, rJ_I, LI, ↓li_m1, nI_add, pk_mul, nn_sub, nn_m1, nn_div, nn_rem, nn_nz, nn_mod, nJ_l, lN_add, lN_mul, nn_tb1, nI_bt, nn_and, nn_or, nn_xor, nn_shr, nn_1shl, nn_31, il_p, il_n, it_p, it_n, ie_p, ie_n, ie_b, ie_b1, ie_m, ie_mm, it_m, it_m0, il_m0, bI_rZ, Option.bind_some, bd2_some, Nat.add_zero, Nat.zero_add, if_true, if_false, Bool.false_eq_true, eq_self, hI_R, hJ_R, ng_t, ng_e]
  · simp (disch := first | assumption | omega | decide | ((repeat first | apply lyI | apply lyJ | apply lywI | apply lywJ | apply csI | apply csJ | apply cswI | apply cswJ); assumption)) only [rI_eq, rI_ne, rI_nk, rJ_eq, rJ_ne, rJ_nk, rI_J, rJ_I, LI, ↓li_m1, nI_add, pk_mul, nn_sub, nn_m1, nn_div, nn_rem, nn_nz, nn_mod, nJ_l, lN_add, lN_mul, nn_tb1, nI_bt, nn_and, nn_or, nn_xor, nn_shr, nn_1shl, nn_31, il_p, il_n, it_p, it_n, ie_p, ie_n, ie_b, ie_b1, ie_m, ie_mm, it_m, it_m0, il_m0, bI_rZ, Option.bind_some, bd2_some, Nat.add_zero, Nat.zero_add, if_true, if_false, Bool.false_eq_true, eq_self, hI_R, hJ_R, ng_t, ng_e, m5]
  · simp (disch := first | assumption | omega | decide | ((repeat first | apply lyI | apply lyJ | apply lywI | apply lywJ | apply csI | apply csJ | apply cswI | apply cswJ); assumption)) only [rI_eq, rI_ne, rI_nk, rJ_eq, rJ_ne, rJ_nk, rI_J, rJ_I, LI, ↓li_m1, nI_add, pk_mul, nn_sub, nn_m1, nn_div, nn_rem, nn_nz, nn_mod, nJ_l, lN_add, lN_mul, nn_tb1, nI_bt, nn_and, nn_or, nn_xor, nn_shr, nn_1shl, nn_31, il_p, il_n, it_p, it_n, ie_p, ie_n, ie_b, ie_b1, ie_m, ie_mm, it_m, it_m0, il_m0, bI_rZ, Option.bind_some, bd2_some, Nat.add_zero, Nat.zero_add, if_true, if_false, Bool.false_eq_true, eq_self, hI_R, hJ_R, ng_t, ng_e]
  · rcases Nat.lt_or_ge k n with u | u
    · rw [ad_lt u]
      have := mM k i u hi
      simp (disch := first | assumption | omega | decide | ((repeat first | apply lyI | apply lyJ | apply lywI | apply lywJ | apply csI | apply csJ | apply cswI | apply cswJ); assumption)) only [rI_eq, rI_ne, rI_nk, rJ_eq, rJ_ne, rJ_nk, rI_J, rJ_I, LI, ↓li_m1, nI_add, pk_mul, nn_sub, nn_m1, nn_div, nn_rem, nn_nz, nn_mod, nJ_l, lN_add, lN_mul, nn_tb1, nI_bt, nn_and, nn_or, nn_xor, nn_shr, nn_1shl, nn_31, il_p, il_n, it_p, it_n, ie_p, ie_n, ie_b, ie_b1, ie_m, ie_mm, it_m, it_m0, il_m0, bI_rZ, Option.bind_some, bd2_some, Nat.add_zero, Nat.zero_add, if_true, if_false, Bool.false_eq_true, eq_self, hI_R, hJ_R, ng_t, ng_e, this]
    · obtain rfl : k = n := by omega
      rcases lt4 hi with rfl | rfl | rfl | rfl
      · rw [z0]
        simp (disch := first | assumption | omega | decide | ((repeat first | apply lyI | apply lyJ | apply lywI | apply lywJ | apply csI | apply csJ | apply cswI | apply cswJ); assumption)) only [rI_eq, rI_ne, rI_nk, rJ_eq, rJ_ne, rJ_nk, rI_J, rJ_I, LI, ↓li_m1, nI_add, pk_mul, nn_sub, nn_m1, nn_div, nn_rem, nn_nz, nn_mod, nJ_l, lN_add, lN_mul, nn_tb1, nI_bt, nn_and, nn_or, nn_xor, nn_shr, nn_1shl, nn_31, il_p, il_n, it_p, it_n, ie_p, ie_n, ie_b, ie_b1, ie_m, ie_mm, it_m, it_m0, il_m0, bI_rZ, Option.bind_some, bd2_some, Nat.add_zero, Nat.zero_add, if_true, if_false, Bool.false_eq_true, eq_self, hI_R, hJ_R, ng_t, ng_e]
      · rw [z1]
        simp (disch := first | assumption | omega | decide | ((repeat first | apply lyI | apply lyJ | apply lywI | apply lywJ | apply csI | apply csJ | apply cswI | apply cswJ); assumption)) only [rI_eq, rI_ne, rI_nk, rJ_eq, rJ_ne, rJ_nk, rI_J, rJ_I, LI, ↓li_m1, nI_add, pk_mul, nn_sub, nn_m1, nn_div, nn_rem, nn_nz, nn_mod, nJ_l, lN_add, lN_mul, nn_tb1, nI_bt, nn_and, nn_or, nn_xor, nn_shr, nn_1shl, nn_31, il_p, il_n, it_p, it_n, ie_p, ie_n, ie_b, ie_b1, ie_m, ie_mm, it_m, it_m0, il_m0, bI_rZ, Option.bind_some, bd2_some, Nat.add_zero, Nat.zero_add, if_true, if_false, Bool.false_eq_true, eq_self, hI_R, hJ_R, ng_t, ng_e]
      · rw [z2]
        simp (disch := first | assumption | omega | decide | ((repeat first | apply lyI | apply lyJ | apply lywI | apply lywJ | apply csI | apply csJ | apply cswI | apply cswJ); assumption)) only [rI_eq, rI_ne, rI_nk, rJ_eq, rJ_ne, rJ_nk, rI_J, rJ_I, LI, ↓li_m1, nI_add, pk_mul, nn_sub, nn_m1, nn_div, nn_rem, nn_nz, nn_mod, nJ_l, lN_add, lN_mul, nn_tb1, nI_bt, nn_and, nn_or, nn_xor, nn_shr, nn_1shl, nn_31, il_p, il_n, it_p, it_n, ie_p, ie_n, ie_b, ie_b1, ie_m, ie_mm, it_m, it_m0, il_m0, bI_rZ, Option.bind_some, bd2_some, Nat.add_zero, Nat.zero_add, if_true, if_false, Bool.false_eq_true, eq_self, hI_R, hJ_R, ng_t, ng_e]
      · rw [z3]
        simp (disch := first | assumption | omega | decide | ((repeat first | apply lyI | apply lyJ | apply lywI | apply lywJ | apply csI | apply csJ | apply cswI | apply cswJ); assumption)) only [rI_eq, rI_ne, rI_nk, rJ_eq, rJ_ne, rJ_nk, rI_J, rJ_I, LI, ↓li_m1, nI_add, pk_mul, nn_sub, nn_m1, nn_div, nn_rem, nn_nz, nn_mod, nJ_l, lN_add, lN_mul, nn_tb1, nI_bt, nn_and, nn_or, nn_xor, nn_shr, nn_1shl, nn_31, il_p, il_n, it_p, it_n, ie_p, ie_n, ie_b, ie_b1, ie_m, ie_mm, it_m, it_m0, il_m0, bI_rZ, Option.bind_some, bd2_some, Nat.add_zero, Nat.zero_add, if_true, if_false, Bool.false_eq_true, eq_self, hI_R, hJ_R, ng_t, ng_e]
  · simp (disch := first | assumption | omega | decide | ((repeat first | apply lyI | apply lyJ | apply lywI | apply lywJ | apply csI | apply csJ | apply cswI | apply cswJ); assumption)) only [rI_eq, rI_ne, rI_nk, rJ_eq, rJ_ne, rJ_nk, rI_J, rJ_I, LI, ↓li_m1, nI_add, pk_mul, nn_sub, nn_m1, nn_div, nn_rem, nn_nz, nn_mod, nJ_l, lN_add, lN_mul, nn_tb1, nI_bt, nn_and, nn_or, nn_xor, nn_shr, nn_1shl, nn_31, il_p, il_n, it_p, it_n, ie_p, ie_n, ie_b, ie_b1, ie_m, ie_mm, it_m, it_m0, il_m0, bI_rZ, Option.bind_some, bd2_some, Nat.add_zero, Nat.zero_add, if_true, if_false, Bool.false_eq_true, eq_self, hI_R, hJ_R, ng_t, ng_e]
  · simp (disch := first | assumption | omega | decide | ((repeat first | apply lyI | apply lyJ | apply lywI | apply lywJ | apply csI | apply csJ | apply cswI | apply cswJ); assumption)) only [rI_eq, rI_ne, rI_nk, rJ_eq, rJ_ne, rJ_nk, rI_J, rJ_I, LI, ↓li_m1, nI_add, pk_mul, nn_sub, nn_m1, nn_div, nn_rem, nn_nz, nn_mod, nJ_l, lN_add, lN_mul, nn_tb1, nI_bt, nn_and, nn_or, nn_xor, nn_shr, nn_1shl, nn_31, il_p, il_n, it_p, it_n, ie_p, ie_n, ie_b, ie_b1, ie_m, ie_mm, it_m, it_m0, il_m0, bI_rZ, Option.bind_some, bd2_some, Nat.add_zero, Nat.zero_add, if_true, if_false, Bool.false_eq_true, eq_self, hI_R, hJ_R, ng_t, ng_e]
