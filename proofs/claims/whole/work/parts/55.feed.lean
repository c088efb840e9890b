/-! ===== feed ===== -/
def byt (v : Int32) (i : Nat) : Int32 := (Int32.toInt8 (v >>> (nI (24 - 8 * i) &&& 31))).toInt32
def putF (f : Nat → Int32) (n : Nat) (v : Int32) (i : Nat) : Nat → Int32 := fun k => if n ≤ k ∧ k < n + i then byt v (k - n) else f k
theorem putF_0 {f : Nat → Int32} {n : Nat} {v : Int32} : putF f n v 0 = f := by
  funext k
  unfold putF
  rw [if_neg (by omega)]
theorem putF_s {f : Nat → Int32} {n i : Nat} {v : Int32} : va_up (putF f n v i) (n + i) (byt v i) = putF f n v (i + 1) := by
  funext k
  unfold va_up putF
  by_cases h1 : k = n + i
  · subst h1
    rw [if_pos rfl, if_pos (by omega), show n + i - n = i by omega]
  · rw [if_neg h1]
    by_cases h2 : n ≤ k ∧ k < n + i
    · rw [if_pos h2, if_pos (by omega)]
    · rw [if_neg h2, if_neg (by omega)]
theorem nar_byt (x : Int32) : vp_nar .byte ((Int32.toInt8 x).toInt32) = (Int32.toInt8 x).toInt32 := pk_vb x
theorem wI_hI_ne {h : aH} {a b k : Nat} {g : Nat → Int32} {x : Int32} (hab : a ≠ b) : wI (hI h b k x) a g = hI (wI h a g) b k x := by
  unfold wI hI
  refine congrArg (fun q => (h.1, q, h.2.2.1, h.2.2.2)) ?_
  funext i
  by_cases hi : i = a
  · subst hi
    simp [up2, hab]
  · by_cases hj : i = b
    · subst hj
      simp [up2, hi]
    · simp [up2, hi, hj]
theorem hI_hI {h : aH} {a k : Nat} {x y : Int32} : hI (hI h a k x) a k y = hI h a k y := by
  rw [hI_w, hI_w, hI_w, wI_wI, wI_I, if_pos rfl, bx_uu]
theorem sh_ok : ∀ i, i < 4 → nI (24 - 8 * i) + (-8 : Int32) = (if i < 3 then nI (24 - 8 * (i + 1)) else -8) := by decide +kernel
theorem put_c {h : aH} (hl : LAY h) {n : Nat} {v : Int32} (hn : n + 4 ≤ 900) (hc : h.2.1 4 6 = nI n) : f_X4_putBytes h 4 v = some (hI (wI h 5 (putF (h.2.1 5) n v 4)) 4 6 (nI (n + 4))) := by
  have L : f_X4_putBytes_l3 4 v (24 : Int32) h = some (hI (wI h 5 (putF (h.2.1 5) n v 4)) 4 6 (nI (n + 4))) := by
    unfold f_X4_putBytes_l3
    have := forL (body := fun q : Int32 × aH => f_X4_putBytes_b3 4 v q.1 q.2) (fun i => ((if i < 4 then nI (24 - 8 * i) else -8 : Int32), hI (wI h 5 (putF (h.2.1 5) n v i)) 4 6 (nI (n + i)))) (e := hI (wI h 5 (putF (h.2.1 5) n v 4)) 4 6 (nI (n + 4))) 4 wN 0 (by rw [wN_e]; decide) (fun j j1 j2 => ?_) ?_
    · rw [show hI (wI h 5 (putF (h.2.1 5) n v 0)) 4 6 (nI (n + 0)) = h by
        rw [putF_0, wI_self, Nat.add_zero, ← hc, hI_w]
        have : va_up (h.2.1 4) 6 (h.2.1 4 6) = h.2.1 4 := by
          funext k
          unfold va_up
          by_cases hk : k = 6
          · rw [if_pos hk, hk]
          · rw [if_neg hk]
        rw [this, wI_self]] at this
      exact this
    · have hj : j < 4 := by omega
      show f_X4_putBytes_b3 4 v (if j < 4 then nI (24 - 8 * j) else -8) _ = _
      have hl' : LAY (hI (wI h 5 (putF (h.2.1 5) n v j)) 4 6 (nI (n + j))) := hl
      unfold f_X4_putBytes_b3
      rw [if_pos hj, if_neg (nI_pos (by omega))]
      simp (decide := true) only [gI_L hl', gR_L hl' (r := 5), Option.bind_some]
      rw [show (hI (wI h 5 (putF (h.2.1 5) n v j)) 4 6 (nI (n + j))).2.1 4 6 = nI (n + j) from rfl, if_neg (show ¬ (900 : Int32) ≤ nI (n + j) from nI_ge (b := 900) (by omega) (by decide)), sB_L hl' _ (by decide) (show n + j < 900 by omega), Option.bind_some, nar_byt, show (Int32.toInt8 (v >>> (nI (24 - 8 * j) &&& 31))).toInt32 = byt v j from rfl]
      have hl2 : LAY (hI (hI (wI h 5 (putF (h.2.1 5) n v j)) 4 6 (nI (n + j))) 5 (n + j) (byt v j)) := hl
      show ((gI (hI (hI (wI h 5 (putF (h.2.1 5) n v j)) 4 6 (nI (n + j))) 5 (n + j) (byt v j)) 4 4 6).bind _) = _
      simp (decide := true) only [gI_L hl2, pI_L hl2, Option.bind_some]
      rw [show (hI (hI (wI h 5 (putF (h.2.1 5) n v j)) 4 6 (nI (n + j))) 5 (n + j) (byt v j)).2.1 4 6 = nI (n + j) from rfl, show nI (n + j) + (1 : Int32) = nI (n + j + 1) from nI_1 _]
      rw [show hI (hI (hI (wI h 5 (putF (h.2.1 5) n v j)) 4 6 (nI (n + j))) 5 (n + j) (byt v j)) 4 6 (nI (n + j + 1)) = hI (wI h 5 (putF (h.2.1 5) n v (j + 1))) 4 6 (nI (n + (j + 1))) by
        rw [hI_w (a := 5), wI_hI_ne (by decide), wI_wI, hI_hI]
        rw [show (hI (wI h 5 (putF (h.2.1 5) n v j)) 4 6 (nI (n + j))).2.1 5 = putF (h.2.1 5) n v j from rfl, putF_s]
        rfl]
      rw [sh_ok j hj]
      by_cases h3 : j < 3
      · rw [if_pos h3, if_pos (show j + 1 < 4 by omega)]
      · rw [if_neg h3, if_neg (show ¬ j + 1 < 4 by omega)]
    · show f_X4_putBytes_b3 4 v (-8) _ = _
      unfold f_X4_putBytes_b3
      rw [if_pos (by decide)]
  unfold f_X4_putBytes
  rw [L, Option.bind_some]
theorem put_m {h : aH} (hl : LAY h) {n : Nat} {v : Int32} (hn : n + 4 ≤ 900) (hc : h.2.1 113 11 = nI n) : f_X12_four h 113 v = some (hI (wI h 120 (putF (h.2.1 120) n v 4)) 113 11 (nI (n + 4))) := by
  have L : f_X12_four_l3 113 v (24 : Int32) h = some (hI (wI h 120 (putF (h.2.1 120) n v 4)) 113 11 (nI (n + 4))) := by
    unfold f_X12_four_l3
    have := forL (body := fun q : Int32 × aH => f_X12_four_b3 113 v q.1 q.2) (fun i => ((if i < 4 then nI (24 - 8 * i) else -8 : Int32), hI (wI h 120 (putF (h.2.1 120) n v i)) 113 11 (nI (n + i)))) (e := hI (wI h 120 (putF (h.2.1 120) n v 4)) 113 11 (nI (n + 4))) 4 wN 0 (by rw [wN_e]; decide) (fun j j1 j2 => ?_) ?_
    · rw [show hI (wI h 120 (putF (h.2.1 120) n v 0)) 113 11 (nI (n + 0)) = h by
        rw [putF_0, wI_self, Nat.add_zero, ← hc, hI_w]
        have : va_up (h.2.1 113) 11 (h.2.1 113 11) = h.2.1 113 := by
          funext k
          unfold va_up
          by_cases hk : k = 11
          · rw [if_pos hk, hk]
          · rw [if_neg hk]
        rw [this, wI_self]] at this
      exact this
    · have hj : j < 4 := by omega
      show f_X12_four_b3 113 v (if j < 4 then nI (24 - 8 * j) else -8) _ = _
      have hl' : LAY (hI (wI h 120 (putF (h.2.1 120) n v j)) 113 11 (nI (n + j))) := hl
      unfold f_X12_four_b3
      rw [if_pos hj, if_neg (nI_pos (by omega))]
      simp (decide := true) only [gI_L hl', gR_L hl' (r := 120), Option.bind_some]
      rw [show (hI (wI h 120 (putF (h.2.1 120) n v j)) 113 11 (nI (n + j))).2.1 113 11 = nI (n + j) from rfl, sB_L hl' _ (by decide) (show n + j < 900 by omega), Option.bind_some, nar_byt, show (Int32.toInt8 (v >>> (nI (24 - 8 * j) &&& 31))).toInt32 = byt v j from rfl]
      have hl2 : LAY (hI (hI (wI h 120 (putF (h.2.1 120) n v j)) 113 11 (nI (n + j))) 120 (n + j) (byt v j)) := hl
      show ((gI (hI (hI (wI h 120 (putF (h.2.1 120) n v j)) 113 11 (nI (n + j))) 120 (n + j) (byt v j)) 12 113 11).bind _) = _
      simp (decide := true) only [gI_L hl2, pI_L hl2, Option.bind_some]
      rw [show (hI (hI (wI h 120 (putF (h.2.1 120) n v j)) 113 11 (nI (n + j))) 120 (n + j) (byt v j)).2.1 113 11 = nI (n + j) from rfl, show nI (n + j) + (1 : Int32) = nI (n + j + 1) from nI_1 _]
      rw [show hI (hI (hI (wI h 120 (putF (h.2.1 120) n v j)) 113 11 (nI (n + j))) 120 (n + j) (byt v j)) 113 11 (nI (n + j + 1)) = hI (wI h 120 (putF (h.2.1 120) n v (j + 1))) 113 11 (nI (n + (j + 1))) by
        rw [hI_w (a := 120), wI_hI_ne (by decide), wI_wI, hI_hI]
        rw [show (hI (wI h 120 (putF (h.2.1 120) n v j)) 113 11 (nI (n + j))).2.1 120 = putF (h.2.1 120) n v j from rfl, putF_s]
        rfl]
      rw [sh_ok j hj]
      by_cases h3 : j < 3
      · rw [if_pos h3, if_pos (show j + 1 < 4 by omega)]
      · rw [if_neg h3, if_neg (show ¬ j + 1 < 4 by omega)]
    · show f_X12_four_b3 113 v (-8) _ = _
      unfold f_X12_four_b3
      rw [if_pos (by decide)]
  unfold f_X12_four
  rw [L, Option.bind_some]
/-- the tapes are alike, and hold bytes -/
def TP (h : aH) : Prop := ∃ n : Nat, n ≤ 900 ∧ h.2.1 4 6 = nI n ∧ h.2.1 113 11 = nI n ∧ (∀ j, h.2.1 5 j = h.2.1 120 j) ∧ ∀ j, (h.2.1 5 j).toInt8.toInt32 = h.2.1 5 j
/-- five ints on a side, as contents -/
def put5 (f : Nat → Int32) (n : Nat) (a b c d e : Int32) : Nat → Int32 := putF (putF (putF (putF (putF f n a 4) (n + 4) b 4) (n + 8) c 4) (n + 12) d 4) (n + 16) e 4
theorem feed_c {h : aH} (hl : LAY h) {n : Nat} (hn : n + 20 ≤ 900) (hc : h.2.1 4 6 = nI n) (a b c d e : Int32) : f_X11_feed h 0 a b c d e = some (nI (n + 20), hI (wI h 5 (put5 (h.2.1 5) n a b c d e)) 4 6 (nI (n + 20))) := by
  have st : ∀ (g : Nat → Int32) (k : Nat) (v : Int32), k + 4 ≤ 900 → f_X4_putBytes (hI (wI h 5 g) 4 6 (nI k)) 4 v = some (hI (wI h 5 (putF g k v 4)) 4 6 (nI (k + 4))) := fun g k v hk => by
    have hl' : LAY (hI (wI h 5 g) 4 6 (nI k)) := hl
    rw [put_c hl' hk rfl, wI_hI_ne (by decide), hI_hI, wI_wI]
    rfl
  have lay : ∀ (g : Nat → Int32) (k : Nat), LAY (hI (wI h 5 g) 4 6 (nI k)) := fun _ _ => hl
  unfold f_X11_feed
  simp (decide := true) only [gR_L hl (r := 4), gI_L hl, ck_L hl, Option.bind_some]
  rw [hc, show nI n + (20 : Int32) = nI (n + 20) from nI_add n 20, if_pos (show nI (n + 20) ≤ (900 : Int32) from nI_le (b := 900) hn (by decide)), put_c hl (by omega) hc, Option.bind_some]
  simp (decide := true) only [gR_L (lay _ _) (r := 4), ck_L (lay _ _), Option.bind_some]
  rw [st _ _ _ (by omega), Option.bind_some]
  simp (decide := true) only [gR_L (lay _ _) (r := 4), ck_L (lay _ _), Option.bind_some]
  rw [st _ _ _ (by omega), Option.bind_some]
  simp (decide := true) only [gR_L (lay _ _) (r := 4), ck_L (lay _ _), Option.bind_some]
  rw [st _ _ _ (by omega), Option.bind_some]
  simp (decide := true) only [gR_L (lay _ _) (r := 4), ck_L (lay _ _), Option.bind_some]
  rw [st _ _ _ (by omega), Option.bind_some]
  simp (decide := true) only [gR_L (lay _ _) (r := 4), gI_L (lay _ _), Option.bind_some]
  rfl
theorem feed_m {h : aH} (hl : LAY h) {n : Nat} (hn : n + 20 ≤ 900) (hc : h.2.1 113 11 = nI n) (a b c d e : Int32) : f_X12_feed h 113 a b c d e = some (nI (n + 20), hI (wI h 120 (put5 (h.2.1 120) n a b c d e)) 113 11 (nI (n + 20))) := by
  have st : ∀ (g : Nat → Int32) (k : Nat) (v : Int32), k + 4 ≤ 900 → f_X12_four (hI (wI h 120 g) 113 11 (nI k)) 113 v = some (hI (wI h 120 (putF g k v 4)) 113 11 (nI (k + 4))) := fun g k v hk => by
    have hl' : LAY (hI (wI h 120 g) 113 11 (nI k)) := hl
    rw [put_m hl' hk rfl, wI_hI_ne (by decide), hI_hI, wI_wI]
    rfl
  have lay : ∀ (g : Nat → Int32) (k : Nat), LAY (hI (wI h 120 g) 113 11 (nI k)) := fun _ _ => hl
  unfold f_X12_feed
  simp (decide := true) only [gI_L hl, ck_L hl, Option.bind_some]
  rw [hc, show nI n + (20 : Int32) = nI (n + 20) from nI_add n 20, if_pos (show nI (n + 20) ≤ (900 : Int32) from nI_le (b := 900) hn (by decide)), put_m hl (by omega) hc, Option.bind_some]
  simp (decide := true) only [ck_L (lay _ _), Option.bind_some]
  rw [st _ _ _ (by omega), Option.bind_some]
  simp (decide := true) only [ck_L (lay _ _), Option.bind_some]
  rw [st _ _ _ (by omega), Option.bind_some]
  simp (decide := true) only [ck_L (lay _ _), Option.bind_some]
  rw [st _ _ _ (by omega), Option.bind_some]
  simp (decide := true) only [ck_L (lay _ _), Option.bind_some]
  rw [st _ _ _ (by omega), Option.bind_some]
  simp (decide := true) only [gI_L (lay _ _), Option.bind_some]
  rfl
theorem putF_byte {f : Nat → Int32} {n i : Nat} {v : Int32} (hf : ∀ j, (f j).toInt8.toInt32 = f j) : ∀ j, (putF f n v i j).toInt8.toInt32 = putF f n v i j := by
  intro j
  unfold putF
  split
  · unfold byt
    have := nar_byt (v >>> (nI (24 - 8 * (j - n)) &&& 31))
    rwa [vp_nar_byte] at this
  · exact hf j
theorem op_feed {h : aH} (hl : LAY h) (ht : TP h) (a b c d e : Int32) : ∃ r h1 h2, f_X11_feed h 0 a b c d e = some (r, h1) ∧ f_X12_feed h1 113 a b c d e = some (r, h2) ∧ FR h h2 [4, 5, 120] [] [] [11] ∧ TP h2 := by
  obtain ⟨n, hn, e1, e2, e3, e4⟩ := ht
  by_cases hk : n + 20 ≤ 900
  · refine ⟨_, _, _, feed_c hl hk e1 a b c d e, feed_m (h := hI (wI h 5 (put5 (h.2.1 5) n a b c d e)) 4 6 (nI (n + 20))) hl hk e2 a b c d e, ?_, ?_⟩
    · exact ((FR.wI (by decide) (by decide) (by decide)).tr (FR.hI (by decide) (by decide) (by decide))).tr ((FR.wI (by decide) (by decide) (by decide)).tr (fr_1 (by decide)))
    · have e5 : h.2.1 5 = h.2.1 120 := funext e3
      refine ⟨n + 20, hk, rfl, rfl, fun j => ?_, ?_⟩
      · show put5 (h.2.1 5) n a b c d e j = put5 (h.2.1 120) n a b c d e j
        rw [e5]
      · exact putF_byte (putF_byte (putF_byte (putF_byte (putF_byte e4))))
  · have nk : ¬ nI n + (20 : Int32) ≤ (900 : Int32) := by
      rw [show nI n + (20 : Int32) = nI (n + 20) from nI_add n 20]
      exact nI_ge (a := 900) (by omega) (by omega)
    refine ⟨-1, h, h, ?_, ?_, FR.rf, ⟨n, hn, e1, e2, e3, e4⟩⟩
    · unfold f_X11_feed
      simp (decide := true) only [gR_L hl (r := 4), gI_L hl, Option.bind_some]
      rw [e1, if_neg nk]
    · unfold f_X12_feed
      simp (decide := true) only [gI_L hl, Option.bind_some]
      rw [e2, if_neg nk]
