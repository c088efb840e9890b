/-! ===== a sitting: the class's loop ===== -/
/-- the plan's steps as the class holds them: word, first, second, step behind the end -/
def PC (h : aH) (p : Nat) (W F G B : Nat → Nat) (ns : Nat) : Prop := h.2.1 p 6 = nI ns ∧ ∀ s, s < ns → h.2.1 (p + 1) s = nI (W s) ∧ h.2.1 (p + 2) s = nI (F s) ∧ h.2.1 (p + 3) s = nI (G s) ∧ h.2.1 (p + 4) s = nI (B s)
/-- behind s steps: where the next one that counts is, and the minutes; or the question of a rule -/
def rcS (A : Nat → Nat) (P : Nat → Bool) (Q : Nat → Nat → Bool) (S : Nat → Nat → Nat → Nat → Nat) (tr : Nat) (tk : Nat → Nat) (W F G B : Nat → Nat) (t0 : MT) : Nat → (Nat × MT) ⊕ (Nat × MT)
  | 0 => .inl (0, t0)
  | s + 1 => match rcS A P Q S tr tk W F G B t0 s with
    | .inr x => .inr x
    | .inl (fr, t) => if s < fr then .inl (fr, t) else if W s = 25 then .inl (fr, puS S tr tk (F s) (some (G s)) t) else if W s = 26 then .inl (fr, puS S tr tk (F s) (bsO A P S (F s) t) t) else if W s = 27 then .inl (fr, (t.1, t.2.1 + 1, t.2.2)) else if W s = 28 then .inr (F s, t) else .inl (if paB A P Q S (W s - 30) (F s) t = true then fr else B s, t)
/-- the steps' numbers are in range -/
def PW (A : Nat → Nat) (W F G B : Nat → Nat) (ns : Nat) : Prop := ns ≤ 30 ∧ ∀ s, s < ns → (W s = 25 ∧ F s < A 4 ∧ G s < A 3) ∨ (W s = 26 ∧ F s < A 4) ∨ W s = 27 ∨ (W s = 28 ∧ F s < A 3) ∨ (∃ x, x < 4 ∧ W s = 30 + x ∧ (x < 3 → F s < A 3) ∧ F s ≤ 256 ∧ B s ≤ 30)
theorem bs_I {A : Nat → Nat} {P : Nat → Bool} {S : Nat → Nat → Nat → Nat → Nat} {v : Nat} {t : MT} : (if cntB (lvB A P S t.2.2 t.1) (A 2) = 0 then m1 else bsI (bsN (putN t.2.2 t.1) (woN A P S (FT A P S t.2.2 t.1) v) (A 3))) = (match bsO A P S v t with | some x => nI x | none => m1) := by
  unfold bsO lvT
  split
  · rfl
  · cases bsN (putN t.2.2 t.1) (woN A P S (FT A P S t.2.2 t.1) v) (A 3) with
    | none => rfl
    | some x => rfl
theorem bs_lt {A : Nat → Nat} {P : Nat → Bool} {S : Nat → Nat → Nat → Nat → Nat} {v : Nat} {t : MT} : ∀ x, bsO A P S v t = some x → x < A 3 := fun x h => by
  unfold bsO at h
  split at h
  · cases h
  · cases hb : bsN (putN t.2.2 t.1) (woN A P S (FT A P S t.2.2 t.1) v) (A 3) with
    | none =>
      rw [hb] at h
      cases h
    | some y =>
      obtain ⟨b, l⟩ := y
      rw [hb] at h
      cases h
      exact (bsN_b (woN_le A P S (FT A P S t.2.2 t.1) v) hb).1
theorem gm_day {A : Nat → Nat} {t : MT} (gm : GM A t) (hd : t.2.1 < 100) : GM A (t.1, t.2.1 + 1, t.2.2) := by
  obtain ⟨⟨mn, md, mk, mi⟩, di, td⟩ := gm
  refine ⟨⟨mn, by show t.2.1 + 1 < 1000; omega, mk, mi⟩, ⟨?_, fun k hk => by have := di.2 k hk; show t.2.2 k 3 ≤ t.2.1 + 1; omega⟩, by show t.2.1 + 1 ≤ 100; omega⟩
  show cntB (fun k => t.2.2 k 3 == t.2.1 + 1) t.1 ≤ 9
  rw [show cntB (fun k => t.2.2 k 3 == t.2.1 + 1) t.1 = 0 from cntB_0.mpr (fun k hk => by
    have := di.2 k hk
    exact beq_eq_false_iff_ne.mpr (by omega))]
  omega
theorem h8_fr {h h' : aH} {c : Nat} {A : Nat → Nat} {P : Nat → Bool} {Q : Nat → Nat → Bool} {S : Nat → Nat → Nat → Nat → Nat} {t : MT} (hf : FR h h' [76] [] [] []) (h8 : H8 h c A P Q S t) : H8 h' c A P Q S t := by
  obtain ⟨hs, hc, hl, hr4, hm, hr⟩ := h8
  refine ⟨cs_fr hf hs, cc_fr hf (by decide) hs hc, hf.lay hl, by rw [hf.2.1]; exact hr4, ?_, ?_⟩
  · unfold MN
    rw [hf.I 69 (by decide) (by decide) (by decide), hf.I (69 + 1) (by decide) (by decide) (by decide), hf.I (69 + 2) (by decide) (by decide) (by decide), hf.I (69 + 3) (by decide) (by decide) (by decide), hf.I (69 + 4) (by decide) (by decide) (by decide)]
    exact hm
  · unfold HR
    rw [hf.I 68 (by decide) (by decide) (by decide), hf.I (68 + 6) (by decide) (by decide) (by decide), hf.I (68 + 7) (by decide) (by decide) (by decide)]
    exact hr
/-- BEST: the best question is put -/
theorem x_best {h : aH} {c : Nat} {A : Nat → Nat} {P : Nat → Bool} {Q : Nat → Nat → Bool} {S : Nat → Nat → Nat → Nat → Nat} {t : MT} (h8 : H8 h c A P Q S t) (hw : WF A) (gm : GM A t) {tr : Nat} {tk : Nat → Nat} (e2 : h.2.1 66 2 = nI tr) (e67 : ∀ v, v < A 4 → h.2.1 67 v = nI (tk v)) (ht : tr < A 2) (hpt : P tr = true) (hk : ∀ v, v < A 4 → tk v < 4) {v : Nat} (hv : v < A 4) : ∃ h1 h' x, f_X3_bestFor h 68 (nI v) = some (x, h1) ∧ f_X10_put h1 66 (nI v) x = some h' ∧ LAY h1 ∧ FR h h' L68 [] [] [] ∧ H8 h' c A P Q S (puS S tr tk v (bsO A P S v t) t) ∧ GM A (puS S tr tk v (bsO A P S v t) t) := by
  obtain ⟨hs, hc, hl, hf, hm, hr⟩ := id h8
  obtain ⟨h1, r1, f1⟩ := k_best68 hs hc hw hl hf hm gm.1 hr hv
  rw [bs_I] at r1
  have f1' : FR h h1 [76] [] [] [] := f1
  obtain ⟨h', r2, f2, h8', gm'⟩ := x_put (h8_fr f1' h8) hw gm (by rw [f1.I 66 (by decide) (by decide) (by decide)]; exact e2) (fun v hv => by rw [f1.I 67 (by decide) (by decide) (by decide)]; exact e67 v hv) ht hpt hk hv (bsO A P S v t) bs_lt
  exact ⟨h1, h', _, r1, r2, f1.lay hl, (f1.mono (by decide) (by decide) (by decide) (by decide)).tr f2, h8', gm'⟩
