/-! ===== pour ===== -/
theorem sub_toInt {m p : Nat} (hm : m ≤ 60) (hp : p < 2 ^ 31) : (nI m - nI p).toInt = (m : Int) - p := by
  rw [Int32.toInt_sub, nI_toInt (by omega), nI_toInt hp]
  rw [Int.bmod_def]
  split <;> omega
theorem lcmp_gt {p n m : Nat} (hp : p < 2 ^ 31) (hn : n < 2 ^ 31) (hm : m ≤ 60) : (0 < lg_cmp ((nI p).toInt64 + (nI n).toInt64) (nI m).toInt64) ↔ m < p + n := by
  rw [nI_l hp, nI_l hn, nI_l (by omega), lN_add]
  have h1 : lN m < lN (p + n) ↔ m < p + n := pk_lLT (by omega) (by omega)
  unfold lg_cmp
  by_cases h : lN (p + n) > lN m
  · rw [if_pos h]
    exact ⟨fun _ => h1.mp h, fun _ => by decide⟩
  · rw [if_neg h]
    refine ⟨fun q => ?_, fun q => absurd (h1.mpr q) h⟩
    split at q
    · exact absurd q (by decide)
    · exact absurd q (by decide)
theorem lcmp_le {p n m : Nat} (hp : p < 2 ^ 31) (hn : n < 2 ^ 31) (hm : m ≤ 60) : (lg_cmp ((nI p).toInt64 + (nI n).toInt64) (nI m).toInt64 ≤ 0) ↔ p + n ≤ m := by
  have := lcmp_gt hp hn hm
  constructor
  · intro q
    exact Nat.not_lt.mp (fun z => absurd (this.mpr z) (Int32.not_lt.mpr q))
  · intro q
    exact Int32.not_lt.mp (fun z => absurd (this.mp z) (by omega))
theorem cpy_s {α : Type} {f : Nat → α} {S D i : Nat} : va_up (va_cpy f f S D i) (D + i) (f (S + i)) = va_cpy f f S D (i + 1) := by
  funext k
  unfold va_up va_cpy
  by_cases h1 : k = D + i
  · subst h1
    rw [if_pos rfl, if_pos (by omega), show D + i - D = i by omega]
  · rw [if_neg h1]
    by_cases h2 : D ≤ k ∧ k < D + i
    · rw [if_pos h2, if_pos (by omega)]
    · rw [if_neg h2, if_neg (by omega)]
/-- copied from behind: the last i of n -/
def bcp {α : Type} (f : Nat → α) (S D n i : Nat) : Nat → α := fun k => if D + (n - i) ≤ k ∧ k < D + n then f (S + (k - D)) else f k
theorem bcp_s {α : Type} {f : Nat → α} {S D n i : Nat} (h : i < n) : va_up (bcp f S D n i) (D + (n - 1 - i)) (f (S + (n - 1 - i))) = bcp f S D n (i + 1) := by
  funext k
  unfold va_up bcp
  by_cases h1 : k = D + (n - 1 - i)
  · subst h1
    rw [if_pos rfl, if_pos (by omega), show D + (n - 1 - i) - D = n - 1 - i by omega]
  · rw [if_neg h1]
    by_cases h2 : D + (n - i) ≤ k ∧ k < D + n
    · rw [if_pos h2, if_pos (by omega)]
    · rw [if_neg h2, if_neg (by omega)]
theorem bcp_n {α : Type} {f : Nat → α} {S D n : Nat} : bcp f S D n n = va_cpy f f S D n := by
  funext k
  unfold bcp va_cpy
  rw [show D + (n - n) = D by omega]
theorem bcp_0 {α : Type} {f : Nat → α} {S D n : Nat} : bcp f S D n 0 = f := by
  funext k
  unfold bcp
  rw [if_neg (by omega)]
theorem cpy_0 {α : Type} {f : Nat → α} {S D : Nat} : va_cpy f f S D 0 = f := by
  funext k
  unfold va_cpy
  rw [if_neg (by omega)]
theorem pour_j {h : aH} (hl : LAY h) {t u p a n i k : Nat} (ht : t < 4) (hu : u < 4) (hp : p + n ≤ 60) (ha : a + n ≤ 60) (hk : k < n) (hi : i < 100) : f_X12_pour_j143 h 113 (nI t) (nI p) (nI u) (nI a) (nI n) (nI i) (nI k) = some (.inl (nI (i + 1), wJ h 119 (va_up (h.2.2.1 119) (60 * u + a + k) (h.2.2.1 119 (60 * t + p + k))))) := by
  have e1 : (60 : Int32) * nI t + nI p + nI k = nI (60 * t + p + k) := by rw [show (60 : Int32) = nI 60 from rfl, pk_mul, nI_add, nI_add]
  have e2 : (60 : Int32) * nI u + nI a + nI k = nI (60 * u + a + k) := by rw [show (60 : Int32) = nI 60 from rfl, pk_mul, nI_add, nI_add]
  unfold f_X12_pour_j143
  simp (decide := true) only [gR_L hl (r := 119), Option.bind_some]
  rw [e1, e2, lJ_L hl (by decide) (show 60 * t + p + k < 240 by omega), Option.bind_some, sJ_L hl _ (by decide) (show 60 * u + a + k < 240 by omega), Option.bind_some, show nI i + (1 : Int32) = nI (i + 1) from nI_1 i]
  rfl
theorem pour_loop {h : aH} (hl : LAY h) {t u p a n : Nat} (ht : t < 4) (hu : u < 4) (hp : p + n ≤ 60) (ha : a + n ≤ 60) : f_X12_pour_l118 113 (nI t) (nI p) (nI u) (nI a) (nI n) (0 : Int32) h = some (wJ h 119 (va_cpy (h.2.2.1 119) (h.2.2.1 119) (60 * t + p) (60 * u + a) n)) := by
  unfold f_X12_pour_l118
  by_cases hd : a ≤ p
  · have := forL (body := fun q : Int32 × aH => f_X12_pour_b118 113 (nI t) (nI p) (nI u) (nI a) (nI n) q.1 q.2) (fun i => (nI i, wJ h 119 (va_cpy (h.2.2.1 119) (h.2.2.1 119) (60 * t + p) (60 * u + a) i))) (e := wJ h 119 (va_cpy (h.2.2.1 119) (h.2.2.1 119) (60 * t + p) (60 * u + a) n)) n wN 0 (by rw [wN_e]; omega) (fun j j1 j2 => ?_) ?_
    · rw [show wJ h 119 (va_cpy (h.2.2.1 119) (h.2.2.1 119) (60 * t + p) (60 * u + a) 0) = h by rw [cpy_0, wJ_self]] at this
      exact this
    · show f_X12_pour_b118 113 (nI t) (nI p) (nI u) (nI a) (nI n) (nI j) _ = _
      unfold f_X12_pour_b118
      rw [if_neg (nI_ge (by omega) (by omega)), if_pos (nI_le hd (by omega)), pour_j (lay_wJ hl) ht hu hp ha (show j < n by omega) (by omega), wJ_wJ, wJ_J, if_pos rfl]
      rw [show va_cpy (h.2.2.1 119) (h.2.2.1 119) (60 * t + p) (60 * u + a) j (60 * t + p + j) = h.2.2.1 119 (60 * t + p + j) by
        unfold va_cpy
        rw [if_neg]
        intro z
        by_cases htu : t = u
        · subst htu; omega
        · omega, cpy_s]
    · show f_X12_pour_b118 113 (nI t) (nI p) (nI u) (nI a) (nI n) (nI (0 + n)) _ = _
      unfold f_X12_pour_b118
      rw [Nat.zero_add, if_pos (nI_le (Nat.le_refl n) (by omega))]
  · have := forL (body := fun q : Int32 × aH => f_X12_pour_b118 113 (nI t) (nI p) (nI u) (nI a) (nI n) q.1 q.2) (fun i => (nI i, wJ h 119 (bcp (h.2.2.1 119) (60 * t + p) (60 * u + a) n i))) (e := wJ h 119 (va_cpy (h.2.2.1 119) (h.2.2.1 119) (60 * t + p) (60 * u + a) n)) n wN 0 (by rw [wN_e]; omega) (fun j j1 j2 => ?_) ?_
    · rw [show wJ h 119 (bcp (h.2.2.1 119) (60 * t + p) (60 * u + a) n 0) = h by rw [bcp_0, wJ_self]] at this
      exact this
    · show f_X12_pour_b118 113 (nI t) (nI p) (nI u) (nI a) (nI n) (nI j) _ = _
      unfold f_X12_pour_b118
      have e : nI n - (1 : Int32) - nI j = nI (n - 1 - j) := by
        rw [show (1 : Int32) = nI 1 from rfl, pk_sub (by omega), pk_sub (by omega)]
      rw [if_neg (nI_ge (by omega) (by omega)), if_neg (nI_ge (by omega) (by omega)), e, pour_j (lay_wJ hl) ht hu hp ha (show n - 1 - j < n by omega) (by omega), wJ_wJ, wJ_J, if_pos rfl]
      rw [show bcp (h.2.2.1 119) (60 * t + p) (60 * u + a) n j (60 * t + p + (n - 1 - j)) = h.2.2.1 119 (60 * t + p + (n - 1 - j)) by
        unfold bcp
        rw [if_neg]
        intro z
        by_cases htu : t = u
        · subst htu; omega
        · omega, bcp_s (by omega)]
    · show f_X12_pour_b118 113 (nI t) (nI p) (nI u) (nI a) (nI n) (nI (0 + n)) _ = _
      unfold f_X12_pour_b118
      rw [Nat.zero_add, if_pos (nI_le (Nat.le_refl n) (by omega)), bcp_n]
theorem ne_m1 {n : Nat} (h : n < 2 ^ 31) : ¬ nI n = (-1 : Int32) := fun q => by
  have := congrArg Int32.toInt q
  rw [nI_toInt h] at this
  exact absurd this (by show ¬ ((n : Int) = -1); omega)
set_option maxHeartbeats 1000000 in
theorem op_pour {h : aH} (hl : LAY h) (ht : TR h) (v1 v2 v3 v4 v5 : Int32) : ∃ r h1 h2, f_X11_pour h 0 v1 v2 v3 v4 v5 = some (r, h1) ∧ f_X12_pour h1 113 v1 v2 v3 v4 v5 = some (r, h2) ∧ FR h h2 [1, 2, 117, 118] [3, 119] [17] [3] ∧ TR h2 ∧ ST h2 := by
  have fin : ∀ w : Int32, ¬ w = 0 → f_X11_pour h 0 v1 v2 v3 v4 v5 = some (0, hI h 0 17 w) → f_X12_pour (hI h 0 17 w) 113 v1 v2 v3 v4 v5 = some (0, hI (hI h 0 17 w) 113 3 w) → ∃ r h1 h2, f_X11_pour h 0 v1 v2 v3 v4 v5 = some (r, h1) ∧ f_X12_pour h1 113 v1 v2 v3 v4 v5 = some (r, h2) ∧ FR h h2 [1, 2, 117, 118] [3, 119] [17] [3] ∧ TR h2 ∧ ST h2 :=
    fun w _ h1 h2 => ⟨0, _, _, h1, h2, (fr_0 (by decide)).tr (fr_1 (by decide)), ht, both_st w⟩
  have a1 : f_X11_pour_j30 h 0 = some (0, hI h 0 17 1) := by simp (decide := true) only [f_X11_pour_j30, ck_L hl, deny_L hl, Option.bind_some, bd2_some, rZ_0]
  have a2 : f_X11_pour_j56 h 0 = some (0, hI h 0 17 2) := by simp (decide := true) only [f_X11_pour_j56, ck_L hl, deny_L hl, Option.bind_some, bd2_some, rZ_0]
  have a3 : f_X11_pour_j119 h 0 = some (0, hI h 0 17 3) := by simp (decide := true) only [f_X11_pour_j119, ck_L hl, deny_L hl, Option.bind_some, bd2_some, rZ_0]
  have b1 : ∀ g, LAY g → f_X12_pour_j28 g 113 = some (0, hI g 113 3 1) := fun g hg => by simp (decide := true) only [f_X12_pour_j28, ck_L hg, is_L hg, Option.bind_some, bd2_some, rZ_0]
  have b2 : ∀ g, LAY g → f_X12_pour_j54 g 113 = some (0, hI g 113 3 2) := fun g hg => by simp (decide := true) only [f_X12_pour_j54, ck_L hg, is_L hg, Option.bind_some, bd2_some, rZ_0]
  have b3 : ∀ g, LAY g → f_X12_pour_j109 g 113 = some (0, hI g 113 3 3) := fun g hg => by simp (decide := true) only [f_X12_pour_j109, ck_L hg, is_L hg, Option.bind_some, bd2_some, rZ_0]
  have hlw : ∀ w, LAY (hI h 0 17 w) := fun w => hl
  rcases pk_ix v1 (n := 4) (by decide) with q | q | ⟨t, ht4, rfl⟩
  · exact fin 1 (by decide) (by unfold f_X11_pour; rw [bel_lt q, Option.bind_some, if_pos rfl, a1]) (by unfold f_X12_pour; rw [isTray_out (Or.inl q), Option.bind_some, if_pos rfl, b1 _ (hlw 1)])
  · replace q : (4 : Int32) ≤ v1 := q
    exact fin 1 (by decide) (by unfold f_X11_pour; rw [bel_ge q, Option.bind_some, if_pos rfl, a1]) (by unfold f_X12_pour; rw [isTray_out (Or.inr q), Option.bind_some, if_pos rfl, b1 _ (hlw 1)])
  have bt : ∀ j, j < 4 → f_X11_below h (nI j) (4 : Int32) = some 1 := fun j hj => bel_in (n := 4) hj (by decide)
  rcases pk_ix v3 (n := 4) (by decide) with q | q | ⟨u, hu4, rfl⟩
  · exact fin 1 (by decide) (by unfold f_X11_pour; rw [bt t ht4, Option.bind_some, if_neg (by decide), bel_lt q, Option.bind_some, if_pos rfl, a1]) (by unfold f_X12_pour; rw [isTray_in ht4, Option.bind_some, if_neg (by decide), isTray_out (Or.inl q), Option.bind_some, if_pos rfl, b1 _ (hlw 1)])
  · replace q : (4 : Int32) ≤ v3 := q
    exact fin 1 (by decide) (by unfold f_X11_pour; rw [bt t ht4, Option.bind_some, if_neg (by decide), bel_ge q, Option.bind_some, if_pos rfl, a1]) (by unfold f_X12_pour; rw [isTray_in ht4, Option.bind_some, if_neg (by decide), isTray_out (Or.inr q), Option.bind_some, if_pos rfl, b1 _ (hlw 1)])
  by_cases q2 : v2 < 0
  · exact fin 1 (by decide) (by unfold f_X11_pour; rw [bt t ht4, Option.bind_some, if_neg (by decide), bt u hu4, Option.bind_some, if_neg (by decide), if_pos q2, a1]) (by unfold f_X12_pour; rw [isTray_in ht4, Option.bind_some, if_neg (by decide), isTray_in hu4, Option.bind_some, if_neg (by decide), if_pos q2, b1 _ (hlw 1)])
  by_cases q4 : v4 < 0
  · exact fin 1 (by decide) (by unfold f_X11_pour; rw [bt t ht4, Option.bind_some, if_neg (by decide), bt u hu4, Option.bind_some, if_neg (by decide), if_neg q2, if_pos q4, a1]) (by unfold f_X12_pour; rw [isTray_in ht4, Option.bind_some, if_neg (by decide), isTray_in hu4, Option.bind_some, if_neg (by decide), if_neg q2, if_pos q4, b1 _ (hlw 1)])
  by_cases q5' : ¬ 0 ≤ v5
  · have q5 := q5'
    exact fin 1 (by decide) (by unfold f_X11_pour; rw [bt t ht4, Option.bind_some, if_neg (by decide), bt u hu4, Option.bind_some, if_neg (by decide), if_neg q2, if_neg q4, if_neg q5, a1]) (by unfold f_X12_pour; rw [isTray_in ht4, Option.bind_some, if_neg (by decide), isTray_in hu4, Option.bind_some, if_neg (by decide), if_neg q2, if_neg q4, if_neg q5, b1 _ (hlw 1)])
  have q5 : 0 ≤ v5 := Decidable.not_not.mp q5'
  obtain ⟨p, hp, rfl⟩ := nI_of q2
  obtain ⟨a, ha, rfl⟩ := nI_of q4
  obtain ⟨n, hn, rfl⟩ := nI_of (Int32.not_lt.mpr q5)
  have C1 : f_X11_pour h 0 (nI t) (nI p) (nI u) (nI a) (nI n) = if h.2.1 1 t = (-1 : Int32) then f_X11_pour_j56 h 0 else if h.2.1 1 u = (-1 : Int32) then f_X11_pour_j56 h 0 else if h.2.1 1 t = h.2.1 1 u then if 0 < lg_cmp ((nI p).toInt64 + (nI n).toInt64) (h.2.1 2 t).toInt64 then f_X11_pour_j119 h 0 else if lg_cmp ((nI a).toInt64 + (nI n).toInt64) (h.2.1 2 u).toInt64 ≤ 0 then (cpJ h 3 (nI t * 60 + nI p) 3 (nI u * 60 + nI a) (nI n)).bind fun h26 => (ck h26 11 0).bind fun _ => bd2 (f_X11_grant h26 0) fun t27 h28 => (rZ t27).bind fun t29 => some (t29, h28) else f_X11_pour_j119 h 0 else some (0, hI h 0 17 8) := by
    unfold f_X11_pour
    rw [bt t ht4, Option.bind_some, if_neg (by decide), bt u hu4, Option.bind_some, if_neg (by decide), if_neg q2, if_neg q4, if_pos q5]
    simp (decide := true) only [gR_L hl (r := 1), gR_L hl (r := 2), gR_L hl (r := 3), Option.bind_some]
    rw [lI_L hl (by decide) (show t < 4 from ht4), lI_L hl (by decide) (show u < 4 from hu4), lI_L hl (by decide) (show t < 4 from ht4), lI_L hl (by decide) (show u < 4 from hu4)]
    simp (decide := true) only [ck_L hl, deny_L hl, Option.bind_some, bd2_some, rZ_0]
  have C2 : ∀ g : aH, LAY g → f_X12_pour g 113 (nI t) (nI p) (nI u) (nI a) (nI n) = if g.2.1 118 t = (-1 : Int32) then f_X12_pour_j54 g 113 else if g.2.1 118 u = (-1 : Int32) then f_X12_pour_j54 g 113 else if g.2.1 117 t = g.2.1 117 u then if (g.2.1 118 t - nI p) < nI n then f_X12_pour_j109 g 113 else if nI n ≤ (g.2.1 118 u - nI a) then (f_X12_pour_l118 113 (nI t) (nI p) (nI u) (nI a) (nI n) (0 : Int32) g).bind fun h29 => (ck h29 12 113).bind fun _ => bd2 (f_X12_is h29 113 (0 : Int32)) fun t30 h31 => (rZ t30).bind fun t32 => some (t32, h31) else f_X12_pour_j109 g 113 else some (0, hI g 113 3 8) := by
    intro g hg
    unfold f_X12_pour
    rw [isTray_in ht4, Option.bind_some, if_neg (by decide), isTray_in hu4, Option.bind_some, if_neg (by decide), if_neg q2, if_neg q4, if_pos q5]
    simp (decide := true) only [gR_L hg (r := 117), gR_L hg (r := 118), Option.bind_some]
    rw [lI_L hg (by decide) (show t < 4 from ht4), lI_L hg (by decide) (show u < 4 from hu4), lI_L hg (by decide) (show t < 4 from ht4), lI_L hg (by decide) (show u < 4 from hu4)]
    simp (decide := true) only [ck_L hg, is_L hg, Option.bind_some, bd2_some, rZ_0]
  rcases ht t ht4 with ⟨e1, e2⟩ | ⟨so, m, hso, hm, e1, e2, e3, e4, e5⟩
  · exact fin 2 (by decide) (by rw [C1, if_pos e1, a2]) (by rw [C2 _ (hlw 2), show (hI h 0 17 2).2.1 118 t = -1 from e2, if_pos rfl, b2 _ (hlw 2)])
  rcases ht u hu4 with ⟨f1, f2⟩ | ⟨so', m', hso', hm', f1, f2, f3, f4, f5⟩
  · exact fin 2 (by decide) (by rw [C1, e1, if_neg (ne_m1 (by omega)), if_pos f1, a2]) (by rw [C2 _ (hlw 2), show (hI h 0 17 2).2.1 118 t = nI m from e4, show (hI h 0 17 2).2.1 118 u = -1 from f2, if_neg (ne_m1 (by omega)), if_pos rfl, b2 _ (hlw 2)])
  rw [e1, f1, if_neg (ne_m1 (by omega)), if_neg (ne_m1 (by omega)), e3, f3] at C1
  have C3 : ∀ w, f_X12_pour (hI h 0 17 w) 113 (nI t) (nI p) (nI u) (nI a) (nI n) = _ := fun w => C2 _ (hlw w)
  by_cases hs' : ¬ nI so = nI so'
  · have hs := hs'
    refine fin 8 (by decide) (by rw [C1, if_neg hs]) ?_
    rw [C3, show (hI h 0 17 8).2.1 118 t = nI m from e4, show (hI h 0 17 8).2.1 118 u = nI m' from f4, show (hI h 0 17 8).2.1 117 t = nI so from e2, show (hI h 0 17 8).2.1 117 u = nI so' from f2, if_neg (ne_m1 (by omega)), if_neg (ne_m1 (by omega)), if_neg hs]
  have hs : nI so = nI so' := Decidable.not_not.mp hs'
  by_cases hA : m < p + n
  · refine fin 3 (by decide) (by rw [C1, if_pos hs, if_pos ((lcmp_gt hp hn hm).mpr hA), a3]) ?_
    rw [C3, show (hI h 0 17 3).2.1 118 t = nI m from e4, show (hI h 0 17 3).2.1 118 u = nI m' from f4, show (hI h 0 17 3).2.1 117 t = nI so from e2, show (hI h 0 17 3).2.1 117 u = nI so' from f2, if_neg (ne_m1 (by omega)), if_neg (ne_m1 (by omega)), if_pos hs, if_pos (by rw [Int32.lt_iff_toInt_lt, sub_toInt hm hp, nI_toInt hn]; omega), b3 _ (hlw 3)]
  have nA : ∀ {g : aH}, ¬ (nI m - nI p) < nI n := fun {_} => by rw [Int32.lt_iff_toInt_lt, sub_toInt hm hp, nI_toInt hn]; omega
  by_cases hB' : ¬ a + n ≤ m'
  · have hB := hB'
    refine fin 3 (by decide) (by rw [C1, if_pos hs, if_neg (fun z => hA ((lcmp_gt hp hn hm).mp z)), if_neg (fun z => hB ((lcmp_le ha hn hm').mp z)), a3]) ?_
    rw [C3, show (hI h 0 17 3).2.1 118 t = nI m from e4, show (hI h 0 17 3).2.1 118 u = nI m' from f4, show (hI h 0 17 3).2.1 117 t = nI so from e2, show (hI h 0 17 3).2.1 117 u = nI so' from f2, if_neg (ne_m1 (by omega)), if_neg (ne_m1 (by omega)), if_pos hs, if_neg (nA (g := h)), if_neg (by rw [Int32.le_iff_toInt_le, sub_toInt hm' ha, nI_toInt hn]; omega), b3 _ (hlw 3)]
  have hB : a + n ≤ m' := Decidable.not_not.mp hB'
  have i1 : nI t * (60 : Int32) + nI p = nI (t * 60 + p) := by rw [show (60 : Int32) = nI 60 from rfl, pk_mul, nI_add]
  have i2 : nI u * (60 : Int32) + nI a = nI (u * 60 + a) := by rw [show (60 : Int32) = nI 60 from rfl, pk_mul, nI_add]
  let g1 := hI (hCJ h 3 (t * 60 + p) 3 (u * 60 + a) n) 0 17 0
  let g2 := hI (wJ g1 119 (va_cpy (g1.2.2.1 119) (g1.2.2.1 119) (60 * t + p) (60 * u + a) n)) 113 3 0
  have hg1 : LAY g1 := hl
  have hg0 : LAY (hCJ h 3 (t * 60 + p) 3 (u * 60 + a) n) := hl
  refine ⟨1, g1, g2, ?_, ?_, ?_, ?_, st_of h 0 rfl rfl⟩
  · rw [C1, if_pos hs, if_neg (fun z => hA ((lcmp_gt hp hn hm).mp z)), if_pos ((lcmp_le ha hn hm').mpr hB), i1, i2]
    have hc : inCpD h 21 3 (nI (t * 60 + p)) 3 (nI (u * 60 + a)) (nI n) = true := by
      rw [inCp_iff]
      have k3 : kd h 3 = 21 := lay_kd hl 3 (by decide)
      have l3 : ln h 3 = 240 := lay_ln hl 3 (by decide)
      refine ⟨k3, k3, nI_pos (by omega), nI_pos (by omega), nI_pos hn, ?_, ?_⟩
      · rw [nI_clamp (by omega), nI_clamp hn, l3]; omega
      · rw [nI_clamp (by omega), nI_clamp hn, l3]; omega
    unfold cpJ
    rw [if_pos hc, Option.bind_some, nI_clamp (show t * 60 + p < 2 ^ 31 by omega), nI_clamp (show u * 60 + a < 2 ^ 31 by omega), nI_clamp hn]
    simp (decide := true) only [ck_L hg0, grant_L hg0, Option.bind_some, bd2_some, rZ_1]
    rfl
  · rw [C2 g1 hg1, show g1.2.1 118 t = nI m from e4, show g1.2.1 118 u = nI m' from f4, show g1.2.1 117 t = nI so from e2, show g1.2.1 117 u = nI so' from f2, if_neg (ne_m1 (by omega)), if_neg (ne_m1 (by omega)), if_pos hs, if_neg (nA (g := h)), if_pos (by rw [Int32.le_iff_toInt_le, sub_toInt hm' ha, nI_toInt hn]; omega), pour_loop hg1 ht4 hu4 (by omega) (by omega), Option.bind_some]
    simp (decide := true) only [ck_L (lay_wJ hg1), is_L0 (lay_wJ hg1), Option.bind_some, bd2_some, rZ_1]
    rfl
  · have f0 : FR h (hCJ h 3 (t * 60 + p) 3 (u * 60 + a) n) [1, 2, 117, 118] [3, 119] [17] [3] := FR.wJ (a := 3) (by decide)
    exact (f0.tr (fr_0 (by decide))).tr ((FR.wJ (by decide)).tr (fr_1 (by decide)))
  · intro x hx
    have k1 : g2.2.1 1 x = h.2.1 1 x := rfl
    have k2 : g2.2.1 2 x = h.2.1 2 x := rfl
    have k3 : g2.2.1 117 x = h.2.1 117 x := rfl
    have k4 : g2.2.1 118 x = h.2.1 118 x := rfl
    rw [k1, k2, k3, k4]
    refine (ht x hx).imp id (fun ⟨so'', m'', p1, p2, p3, p4, p5, p6, p7⟩ => ⟨so'', m'', p1, p2, p3, p4, p5, p6, fun i hi => ?_⟩)
    show va_cpy (h.2.2.1 3) (h.2.2.1 3) (t * 60 + p) (u * 60 + a) n (x * 60 + i) = va_cpy (h.2.2.1 119) (h.2.2.1 119) (60 * t + p) (60 * u + a) n (60 * x + i)
    unfold va_cpy
    by_cases z : u * 60 + a ≤ x * 60 + i ∧ x * 60 + i < u * 60 + a + n
    · rw [if_pos z, if_pos (by omega)]
      have := e5 (p + (x * 60 + i - (u * 60 + a))) (by omega)
      rw [show t * 60 + p + (x * 60 + i - (u * 60 + a)) = t * 60 + (p + (x * 60 + i - (u * 60 + a))) by omega, this]
      exact congrArg (h.2.2.1 119) (by omega)
    · rw [if_neg z, if_neg (by omega)]
      exact p7 i hi
