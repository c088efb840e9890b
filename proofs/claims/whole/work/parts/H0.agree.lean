/-! ===== cases: what does not hang on questions and witnesses ===== -/
def AGn (A A' : Nat → Nat) : Prop := ∀ x, x < 64 → (x < 3 ∨ 8 ≤ x) → A' x = A x
theorem ag_st {A A' : Nat → Nat} (ag : AGn A A') {t : Nat} (ht : t ≤ 4) : ∀ n, n ≤ t → stM A' t n = stM A t n
  | 0, _ => rfl
  | n + 1, h => by
    show stM A' t n * A' (60 + (t - 1 - n)) = stM A t n * A (60 + (t - 1 - n))
    rw [ag_st ag ht n (by omega), ag (60 + (t - 1 - n)) (by omega) (by omega)]
theorem ag_0 {A A' : Nat → Nat} (ag : AGn A A') : A' 0 = A 0 ∧ A' 1 = A 1 ∧ A' 2 = A 2 := ⟨ag 0 (by decide) (by decide), ag 1 (by decide) (by decide), ag 2 (by decide) (by decide)⟩
theorem ag_strd {A A' : Nat → Nat} (ag : AGn A A') (h4 : A 0 ≤ 4) {f : Nat} : strd A' f = strd A f := by
  unfold strd
  rw [(ag_0 ag).1]
  exact ag_st ag h4 _ (by omega)
theorem ag_val {A A' : Nat → Nat} (ag : AGn A A') (h4 : A 0 ≤ 4) {w f : Nat} (hf : f < 4) : valN A' w f = valN A w f := by
  unfold valN
  rw [ag_strd ag h4, ag (56 + f) (by omega) (by omega), ag (60 + f) (by omega) (by omega)]
theorem ag_ok {A A' Bv : Nat → Nat} (ag : AGn A A') (h4 : A 0 ≤ 4) {w f : Nat} (hf : f < 4) : okF A' Bv w f = okF A Bv w f := by
  unfold okF
  rw [ag_val ag h4 hf]
  exact allB_congr (fun g hg => by rw [ag_val ag h4 (by omega)])
theorem ag_cn {A A' Bv : Nat → Nat} (ag : AGn A A') (h4 : A 0 ≤ 4) {w : Nat} : cnP A' Bv w = cnP A Bv w := by
  have e : allB (okF A' Bv w) (A' 0) = allB (okF A Bv w) (A 0) := by
    rw [(ag_0 ag).1]
    exact allB_congr (fun f hf => ag_ok ag h4 (by omega))
  show (decide (w < A' 2) && allB (okF A' Bv w) (A' 0)) = (decide (w < A 2) && allB (okF A Bv w) (A 0))
  rw [e, (ag_0 ag).2.2]
theorem ag_wt {A A' : Nat → Nat} (ag : AGn A A') (wf : WF A) {w : Nat} : wtN A' w = wtN A w := by
  have h4 := wf.1.1
  have h24 := wf.1.2.1
  have e : ∀ f, f ≤ A 0 → wtF A' w f = wtF A w f := fun f => by
    induction f with
    | zero => exact fun _ => rfl
    | succ f ih =>
      intro hf
      have v := val_lt wf (w := w) (f := f) (by omega)
      show wtF A' w f * A' (32 + valN A' w f) = wtF A w f * A (32 + valN A w f)
      rw [ih (by omega), ag_val ag h4 (by omega), ag (32 + valN A w f) (by omega) (by omega)]
  unfold wtN
  rw [(ag_0 ag).1]
  exact e (A 0) (Nat.le_refl _)
theorem ag_vl {A A' : Nat → Nat} (ag : AGn A A') (wf : WF A) {v w : Nat} (hv : v < A 1) : vlB A' v w = vlB A v w := by
  have h4 := wf.1.1
  have h24 := wf.1.2.1
  have q := (wf.2.2.2.1 v hv).1
  unfold vlB
  rw [ag (8 + v) (by omega) (by omega), ag_val ag h4 (by omega)]
theorem ag_vf {A A' : Nat → Nat} (ag : AGn A A') (wf : WF A) (vf : VFa A) : VFa A' := fun f x hf hx => by
  have h4 := wf.1.1
  have h24 := wf.1.2.1
  rw [(ag_0 ag).1] at hf
  have q := wf.1.2.2.2.2 f hf
  rw [ag (60 + f) (by omega) (by omega)] at hx
  rw [ag (56 + f) (by omega) (by omega), ag (8 + (A (56 + f) + x)) (by omega) (by omega)]
  exact vf f x hf hx
theorem ag_sq {A A' : Nat → Nat} (ag : AGn A A') (wf : WF A) (sq : SQa A) : SQa A' := by
  have h4 := wf.1.1
  obtain ⟨a0, a1, a2⟩ := ag_0 ag
  refine ⟨⟨fun h => ?_, fun h => ?_⟩, fun f hf => ?_, fun f hf => ?_⟩
  · rw [a0] at h
    rw [a1]
    exact sq.1.1 h
  · rw [a0] at h
    rw [ag 56 (by decide) (by decide)]
    exact sq.1.2 h
  · rw [a0] at hf
    rw [ag (56 + f) (by omega) (by omega), ag (60 + f) (by omega) (by omega), ag (56 + (f + 1)) (by omega) (by omega)]
    exact sq.2.1 f hf
  · rw [a0] at hf
    rw [ag (56 + f) (by omega) (by omega), ag (60 + f) (by omega) (by omega), a1]
    exact sq.2.2 f hf
theorem ag_wff {A A' : Nat → Nat} (ag : AGn A A') (wf : WF A) : WFf A' ∧ A' 2 = A 2 ∧ ∀ v, v < A' 1 → A' (8 + v) < A' 0 ∧ 1 ≤ A' (32 + v) ∧ A' (32 + v) ≤ 9 := by
  obtain ⟨a0, a1, a2⟩ := ag_0 ag
  have h4 := wf.1.1
  have h24 := wf.1.2.1
  refine ⟨⟨by omega, by omega, by rw [a2]; exact wf.1.2.2.1, by rw [a2]; exact wf.1.2.2.2.1, fun f hf => ?_⟩, a2, fun v hv => ?_⟩
  · rw [a0] at hf
    rw [ag (60 + f) (by omega) (by omega), ag (56 + f) (by omega) (by omega), a1]
    exact wf.1.2.2.2.2 f hf
  · rw [a1] at hv
    rw [ag (8 + v) (by omega) (by omega), ag (32 + v) (by omega) (by omega), a0]
    exact wf.2.2.2.1 v hv
theorem ag_2 {A A' : Nat → Nat} (ag : AGn A A') (h4 : A 0 ≤ 4) (e : A 2 = stM A (A 0) (A 0)) : A' 2 = stM A' (A' 0) (A' 0) := by
  obtain ⟨a0, a1, a2⟩ := ag_0 ag
  rw [a2, a0, ag_st ag h4 _ (Nat.le_refl _)]
  exact e
/-- the worlds of the class, under another A -/
theorem ag_dw {h : aH} {c : Nat} {A A' Bv : Nat → Nat} {Q : Nat → Nat → Bool} (ag : AGn A A') (wf : WF A) (a3 : A' 3 = A 3) (d : DWo h c A Bv Q) : DWo h c A' Bv Q := by
  obtain ⟨a0, a1, a2⟩ := ag_0 ag
  have h4 := wf.1.1
  obtain ⟨d1, d2, d3, d4, d5⟩ := d
  refine ⟨?_, fun f hf => ?_, fun w hw => ?_, fun w hw => ?_, fun v w hv hw => ?_⟩
  · rw [a2, cntB_congr (fun i _ => ag_cn ag h4)]
    exact d1
  · rw [a0] at hf
    rw [ag_strd ag h4]
    exact d2 f hf
  · rw [a2] at hw
    rw [ag_cn ag h4, ag_wt ag wf, a3]
    exact d3 w hw
  · rw [ag_cn ag h4]
    exact d4 w hw
  · rw [a1] at hv
    rw [ag_cn ag h4]
    have e : (valN A' w (A' (8 + v)) == v) = (valN A w (A (8 + v)) == v) := ag_vl ag wf hv
    rw [e]
    exact d5 v w hv hw
theorem wf_at {k : aH} {A A' : Nat → Nat} (ag : AGn A A') (h : ∀ x, x < 64 → (x < 3 ∨ 8 ≤ x) → k.2.1 114 (1600 + x) = nI (A x)) : ATn k A' := fun x hx h3 => by
  rw [ag x hx h3]
  exact h x hx h3
