/-! ===== a sitting: the class's whole loop ===== -/
/-- what a sitting has come to: nothing, or a rule's question -/
def rcE (A : Nat → Nat) (P : Nat → Bool) (Q : Nat → Nat → Bool) (S : Nat → Nat → Nat → Nat → Nat) (tr : Nat) (x : (Nat × MT) ⊕ (Nat × MT)) : Nat × MT := match x with
  | .inl (_, t) => (2, t)
  | .inr (q, t) => (juN A P Q S tr q t, t)
theorem x_loop14 {h : aH} {c : Nat} {A : Nat → Nat} {P : Nat → Bool} {Q : Nat → Nat → Bool} {S : Nat → Nat → Nat → Nat → Nat} {t0 : MT} (h8 : H8 h c A P Q S t0) (hw : WF A) (gm : GM A t0) (d0 : t0.2.1 = 0) {tr : Nat} {tk : Nat → Nat} (e2 : h.2.1 66 2 = nI tr) (e67 : ∀ v, v < A 4 → h.2.1 67 v = nI (tk v)) (ht : tr < A 2) (hpt : P tr = true) (hk : ∀ v, v < A 4 → tk v < 4) {W F G B : Nat → Nat} {ns : Nat} (pc : PC h 14 W F G B ns) (pw : PW A W F G B ns) : ∃ e, f_X10_holdCourt_l20 66 14 (nI 0) (nI 0) h = some e ∧ ∃ h' t, FR h h' L68 [] [] [] ∧ H8 h' c A P Q S t ∧ GM A t ∧ ((∃ fr, e = .inr h' ∧ rcS A P Q S tr tk W F G B t0 ns = .inl (fr, t)) ∨ ∃ q, q < A 3 ∧ e = .inl (nI q, h') ∧ rcS A P Q S tr tk W F G B t0 ns = .inr (q, t)) := by
  have n30 := pw.1
  refine whl0 (fun i (s : Int32 × Int32 × aH) => ∃ g fr t, s = (nI fr, nI i, g) ∧ FR h g L68 [] [] [] ∧ H8 g c A P Q S t ∧ GM A t ∧ fr ≤ 30 ∧ t.2.1 ≤ i ∧ rcS A P Q S tr tk W F G B t0 i = .inl (fr, t)) _ ns (by omega) ⟨h, 0, t0, rfl, FR.rf, h8, gm, by omega, by omega, rfl⟩ ?_
  rintro i _ ⟨g, fr, t, rfl, fg, g8, ggm, hfr, hd, hrc⟩ hi
  have pcg : PC g 14 W F G B ns := by
    unfold PC
    rw [fg.I 14 (by decide) (by decide) (by decide), fg.I (14 + 1) (by decide) (by decide) (by decide), fg.I (14 + 2) (by decide) (by decide) (by decide), fg.I (14 + 3) (by decide) (by decide) (by decide), fg.I (14 + 4) (by decide) (by decide) (by decide)]
    exact pc
  rcases Nat.lt_or_ge i ns with u | u
  · rcases x_step14 g8 hw ggm (by rw [fg.I 66 (by decide) (by decide) (by decide)]; exact e2) (fun v hv => by rw [fg.I 67 (by decide) (by decide) (by decide)]; exact e67 v hv) ht hpt hk pcg pw u hfr (by omega) hrc with ⟨g', fr', t', r, nx, hf', hd', f', h8', gm'⟩ | ⟨q, hq, r, nx⟩
    · exact Or.inl ⟨_, r, u, g', fr', t', rfl, fg.tr f', h8', gm', hf', by omega, nx⟩
    · refine Or.inr ⟨_, r, g, t, fg, g8, ggm, Or.inr ⟨q, hq, rfl, ?_⟩⟩
      have := rc_r nx (ns - (i + 1))
      rw [show i + 1 + (ns - (i + 1)) = ns by omega] at this
      exact this
  · obtain rfl : i = ns := by omega
    have hl := g8.2.2.1
    have u6 : gI g 8 14 6 = some (nI i) := (gI_L hl 6 (by decide) (by decide)).trans (congrArg some pcg.1)
    refine Or.inr ⟨.inr g, ?_, g, t, fg, g8, ggm, Or.inl ⟨fr, rfl, hrc⟩⟩
    unfold f_X10_holdCourt_b20
    rw [u6, Option.bind_some, if_pos (show nI i ≤ nI i from nI_le (Nat.le_refl i) (by omega))]
theorem x_loop20 {h : aH} {c : Nat} {A : Nat → Nat} {P : Nat → Bool} {Q : Nat → Nat → Bool} {S : Nat → Nat → Nat → Nat → Nat} {t0 : MT} (h8 : H8 h c A P Q S t0) (hw : WF A) (gm : GM A t0) (d0 : t0.2.1 = 0) {tr : Nat} {tk : Nat → Nat} (e2 : h.2.1 66 2 = nI tr) (e67 : ∀ v, v < A 4 → h.2.1 67 v = nI (tk v)) (ht : tr < A 2) (hpt : P tr = true) (hk : ∀ v, v < A 4 → tk v < 4) {W F G B : Nat → Nat} {ns : Nat} (pc : PC h 20 W F G B ns) (pw : PW A W F G B ns) : ∃ e, f_X10_holdCourt_l20 66 20 (nI 0) (nI 0) h = some e ∧ ∃ h' t, FR h h' L68 [] [] [] ∧ H8 h' c A P Q S t ∧ GM A t ∧ ((∃ fr, e = .inr h' ∧ rcS A P Q S tr tk W F G B t0 ns = .inl (fr, t)) ∨ ∃ q, q < A 3 ∧ e = .inl (nI q, h') ∧ rcS A P Q S tr tk W F G B t0 ns = .inr (q, t)) := by
  have n30 := pw.1
  refine whl0 (fun i (s : Int32 × Int32 × aH) => ∃ g fr t, s = (nI fr, nI i, g) ∧ FR h g L68 [] [] [] ∧ H8 g c A P Q S t ∧ GM A t ∧ fr ≤ 30 ∧ t.2.1 ≤ i ∧ rcS A P Q S tr tk W F G B t0 i = .inl (fr, t)) _ ns (by omega) ⟨h, 0, t0, rfl, FR.rf, h8, gm, by omega, by omega, rfl⟩ ?_
  rintro i _ ⟨g, fr, t, rfl, fg, g8, ggm, hfr, hd, hrc⟩ hi
  have pcg : PC g 20 W F G B ns := by
    unfold PC
    rw [fg.I 20 (by decide) (by decide) (by decide), fg.I (20 + 1) (by decide) (by decide) (by decide), fg.I (20 + 2) (by decide) (by decide) (by decide), fg.I (20 + 3) (by decide) (by decide) (by decide), fg.I (20 + 4) (by decide) (by decide) (by decide)]
    exact pc
  rcases Nat.lt_or_ge i ns with u | u
  · rcases x_step20 g8 hw ggm (by rw [fg.I 66 (by decide) (by decide) (by decide)]; exact e2) (fun v hv => by rw [fg.I 67 (by decide) (by decide) (by decide)]; exact e67 v hv) ht hpt hk pcg pw u hfr (by omega) hrc with ⟨g', fr', t', r, nx, hf', hd', f', h8', gm'⟩ | ⟨q, hq, r, nx⟩
    · exact Or.inl ⟨_, r, u, g', fr', t', rfl, fg.tr f', h8', gm', hf', by omega, nx⟩
    · refine Or.inr ⟨_, r, g, t, fg, g8, ggm, Or.inr ⟨q, hq, rfl, ?_⟩⟩
      have := rc_r nx (ns - (i + 1))
      rw [show i + 1 + (ns - (i + 1)) = ns by omega] at this
      exact this
  · obtain rfl : i = ns := by omega
    have hl := g8.2.2.1
    have u6 : gI g 8 20 6 = some (nI i) := (gI_L hl 6 (by decide) (by decide)).trans (congrArg some pcg.1)
    refine Or.inr ⟨.inr g, ?_, g, t, fg, g8, ggm, Or.inl ⟨fr, rfl, hrc⟩⟩
    unfold f_X10_holdCourt_b20
    rw [u6, Option.bind_some, if_pos (show nI i ≤ nI i from nI_le (Nat.le_refl i) (by omega))]
