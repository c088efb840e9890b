/-! ===== arrays over the picture ===== -/
theorem cnE_i {cA : Nat → ClassId} {B : Nat} {h : aH} {a t : Nat} (hk : kd h a = t) (ht : t = 20 ∨ t = 22 ∨ t = 23) : cnE cA B h a = .inl (cA t, ln h a, .inl (h.2.1 a)) := by
  unfold cnE
  rw [hk]
  rcases ht with rfl | rfl | rfl <;> rfl
theorem cnE_j {cA : Nat → ClassId} {B : Nat} {h : aH} {a : Nat} (hk : kd h a = 21) : cnE cA B h a = .inl (cA 21, ln h a, .inr (.inl (h.2.2.1 a))) := by
  unfold cnE
  rw [hk]
  rfl
theorem cnE_r {cA : Nat → ClassId} {B : Nat} {h : aH} {a t : Nat} (hk : kd h a = t) (ht : t = 24 ∨ t = 25) : cnE cA B h a = .inl (cA t, ln h a, .inr (.inr (.inr (.inr (fun j => (h.2.2.2 a j).map (B + ·)))))) := by
  unfold cnE
  rw [hk]
  rcases ht with rfl | rfl <;> rfl
theorem vp_of {h : aH} {t a : Nat} {i : Int32} (hi : inb h t a i) : vp_in i (ln h a) := fun q => q.elim hi.2.1 (fun z => absurd hi.2.2 (Nat.not_lt.mpr z))
theorem fv_i {f : Nat → Int32} {k : Nat} {x : Int32} : (fun j => Value.int (va_up f k x j)) = updV (fun j => .int (f j)) k (.int x) := by
  funext j
  by_cases hj : j = k <;> simp [va_up, updV, hj]
theorem fv_j {f : Nat → Int64} {k : Nat} {x : Int64} : (fun j => Value.long (va_up f k x j)) = updV (fun j => .long (f j)) k (.long x) := by
  funext j
  by_cases hj : j = k <;> simp [va_up, updV, hj]
theorem fv_r {B : Nat} {f : Nat → Option Nat} {k : Nat} {x : Option Nat} : (fun j => va_rf ((va_up f k x j).map (B + ·))) = updV (fun j => va_rf ((f j).map (B + ·))) k (va_rf (x.map (B + ·))) := by
  funext j
  by_cases hj : j = k <;> simp [va_up, updV, hj]
def lR (h : aH) (t a : Nat) (i : Int32) : Option (Option Nat) := if inbD h t a i then some (h.2.2.2 a i.toNatClampNeg) else none
def sR (h : aH) (t a : Nat) (i : Int32) (c x : Nat) : Option aH := if inbD h t a i && (kd h x == c) then some (hR h a i.toNatClampNeg (some x)) else none
section RA
variable {p : Program} {l : Launch} {e : Env} {R : Room} {s : State} {m : MethodId} {args : Array Value} {below : List Frame} {meth : Method} {c : Code} {Q : State → Prop} {D : va_G} {cA : Nat → ClassId} {B : Nat} {Hb : Heap} {nL : Nat} {h : aH} {pc : Nat} {lv : List (Nat × Value)} {st : List Value} {cells slots : Nat} {own : String} {cc : ByteArray} {ret : Option FieldType}
theorem r_ldI {a : Nat} {i : Int32} {x : Int32} (C : cX p s m args meth c D cA B Hb own cc nL ret) (d : decode cc pc = .ok (.iaload, 1)) (hg : lI h a i = some x) (kk : gW p l e R s m args below meth c Q D cA B Hb nL h (pc + 1) lv (.int x :: st) cells slots) : gW p l e R s m args below meth c Q D cA B Hb nL h pc lv (.int i :: .ref a :: st) cells slots := by
  obtain ⟨hx, hb, -, hown, hts, ⟨hK, -⟩, -, -⟩ := C
  unfold lI at hg
  split at hg
  · rename_i q
    have hi := inb_iff.mp q
    cases hg
    intro H locs ls w hlv
    have hP := wW_at w (a := a) (by rw [hi.1]; decide)
    rw [cnE_i hi.1 (by decide)] at hP
    exact va_iald hx hb hK hP 0 0 rfl rfl (vp_of hi) d (kk H locs ls w hlv)
  · cases hg
theorem r_ldJ {a : Nat} {i : Int32} {x : Int64} (C : cX p s m args meth c D cA B Hb own cc nL ret) (d : decode cc pc = .ok (.laload, 1)) (hg : lJ h a i = some x) (kk : gW p l e R s m args below meth c Q D cA B Hb nL h (pc + 1) lv (.long x :: st) cells slots) : gW p l e R s m args below meth c Q D cA B Hb nL h pc lv (.int i :: .ref a :: st) cells slots := by
  obtain ⟨hx, hb, -, hown, hts, ⟨hK, -⟩, -, -⟩ := C
  unfold lJ at hg
  split at hg
  · rename_i q
    have hi := inb_iff.mp q
    cases hg
    intro H locs ls w hlv
    have hP := wW_at w (a := a) (by rw [hi.1]; decide)
    rw [cnE_j hi.1] at hP
    exact va_lald hx hb hK hP 0 1 rfl rfl (vp_of hi) d (kk H locs ls w hlv)
  · cases hg
theorem r_ldB {a : Nat} {i : Int32} {x : Int32} (C : cX p s m args meth c D cA B Hb own cc nL ret) (d : decode cc pc = .ok (.baload, 1)) (hg : lB h a i = some x) (kk : gW p l e R s m args below meth c Q D cA B Hb nL h (pc + 1) lv (.int x :: st) cells slots) : gW p l e R s m args below meth c Q D cA B Hb nL h pc lv (.int i :: .ref a :: st) cells slots := by
  obtain ⟨hx, hb, -, hown, hts, ⟨hK, -⟩, -, -⟩ := C
  unfold lB at hg
  split at hg
  · rename_i q
    have hi := inb_iff.mp q
    cases hg
    intro H locs ls w hlv
    have hP := wW_at w (a := a) (by rw [hi.1]; decide)
    rw [cnE_i hi.1 (by decide)] at hP
    exact va_bald hx hb hK hP 0 2 rfl rfl (vp_of hi) d (kk H locs ls w hlv)
  · cases hg
theorem r_ldZ {a : Nat} {i : Int32} {x : Int32} (C : cX p s m args meth c D cA B Hb own cc nL ret) (d : decode cc pc = .ok (.baload, 1)) (hg : lZ h a i = some x) (kk : gW p l e R s m args below meth c Q D cA B Hb nL h (pc + 1) lv (.int x :: st) cells slots) : gW p l e R s m args below meth c Q D cA B Hb nL h pc lv (.int i :: .ref a :: st) cells slots := by
  obtain ⟨hx, hb, -, hown, hts, ⟨hK, -⟩, -, -⟩ := C
  unfold lZ at hg
  split at hg
  · rename_i q
    have hi := inb_iff.mp q
    cases hg
    intro H locs ls w hlv
    have hP := wW_at w (a := a) (by rw [hi.1]; decide)
    rw [cnE_i hi.1 (by decide)] at hP
    exact va_zald hx hb hK hP 0 3 rfl rfl (vp_of hi) d (kk H locs ls w hlv)
  · cases hg
theorem r_stI {a : Nat} {i : Int32} {x : Int32} {h' : aH} (C : cX p s m args meth c D cA B Hb own cc nL ret) (d : decode cc pc = .ok (.iastore, 1)) (hg : sI h a i x = some h') (kk : gW p l e R s m args below meth c Q D cA B Hb nL h' (pc + 1) lv st cells slots) : gW p l e R s m args below meth c Q D cA B Hb nL h pc lv (.int x :: .int i :: .ref a :: st) cells slots := by
  obtain ⟨hx, hb, -, hown, hts, ⟨hK, -⟩, -, -⟩ := C
  unfold sI at hg
  split at hg
  · rename_i q
    have hi := inb_iff.mp q
    cases hg
    intro H locs ls w hlv
    have hP := wW_at w (a := a) (by rw [hi.1]; decide) 0 _ rfl
    rw [cnE_i hi.1 (by decide)] at hP
    refine W.iast hx hb hP ((hK.2 0 _ rfl).1 (ln h a) (fun j => .int (h.2.1 a j))) (fun q => by cases q) (by show ¬ (i < 0 ∨ (arrV _ _ _).slots.size ≤ _); rw [arrV_size]; exact vp_of hi) rfl rfl d fun H1 e1 e2 e3 => ?_
    refine kk H1 _ ls (wW_set w a _ rfl (fun j hj => cnE_hI hj) e2 e3 ?_) hlv
    rw [cnE_i (show kd (hI h a i.toNatClampNeg x) a = 20 from hi.1) (by decide)]
    show H1[B + a]? = some (vp_cell (cA 20) (ln h a, .inl (up2 h.2.1 a i.toNatClampNeg x a)))
    rw [e1]
    show some ((vp_cell (cA 20) (ln h a, .inl (h.2.1 a))).setSlot _ _) = _
    rw [vp_cell_i, vp_cell_i, arrV_store]
    rw [up2_self, fv_i]
  · cases hg
theorem r_stJ {a : Nat} {i : Int32} {x : Int64} {h' : aH} (C : cX p s m args meth c D cA B Hb own cc nL ret) (d : decode cc pc = .ok (.lastore, 1)) (hg : sJ h a i x = some h') (kk : gW p l e R s m args below meth c Q D cA B Hb nL h' (pc + 1) lv st cells slots) : gW p l e R s m args below meth c Q D cA B Hb nL h pc lv (.long x :: .int i :: .ref a :: st) cells slots := by
  obtain ⟨hx, hb, -, hown, hts, ⟨hK, -⟩, -, -⟩ := C
  unfold sJ at hg
  split at hg
  · rename_i q
    have hi := inb_iff.mp q
    cases hg
    intro H locs ls w hlv
    have hP := wW_at w (a := a) (by rw [hi.1]; decide) 0 _ rfl
    rw [cnE_j hi.1] at hP
    refine W.last hx hb hP ((hK.2 1 _ rfl).1 (ln h a) (fun j => .long (h.2.2.1 a j))) (fun q => by cases q) (by show ¬ (i < 0 ∨ (arrV _ _ _).slots.size ≤ _); rw [arrV_size]; exact vp_of hi) rfl rfl d fun H1 e1 e2 e3 => ?_
    refine kk H1 _ ls (wW_set w a _ rfl (fun j hj => cnE_hJ hj) e2 e3 ?_) hlv
    rw [cnE_j (show kd (hJ h a i.toNatClampNeg x) a = 21 from hi.1)]
    show H1[B + a]? = some (vp_cell (cA 21) (ln h a, .inr (.inl (up2 h.2.2.1 a i.toNatClampNeg x a))))
    rw [e1]
    show some ((vp_cell (cA 21) (ln h a, .inr (.inl (h.2.2.1 a)))).setSlot _ _) = _
    rw [vp_cell_l, vp_cell_l, arrV_store]
    rw [up2_self, fv_j]
  · cases hg
theorem r_stB {a : Nat} {i : Int32} {x : Int32} {h' : aH} (C : cX p s m args meth c D cA B Hb own cc nL ret) (d : decode cc pc = .ok (.bastore, 1)) (hg : sB h a i x = some h') (kk : gW p l e R s m args below meth c Q D cA B Hb nL h' (pc + 1) lv st cells slots) : gW p l e R s m args below meth c Q D cA B Hb nL h pc lv (.int x :: .int i :: .ref a :: st) cells slots := by
  obtain ⟨hx, hb, -, hown, hts, ⟨hK, -⟩, -, -⟩ := C
  unfold sB at hg
  split at hg
  · rename_i q
    have hi := inb_iff.mp q
    cases hg
    intro H locs ls w hlv
    have hP := wW_at w (a := a) (by rw [hi.1]; decide) 0 _ rfl
    rw [cnE_i hi.1 (by decide)] at hP
    refine W.bast hx hb hP ((hK.2 2 _ rfl).1 (ln h a) (fun j => .int (h.2.1 a j))) (fun q => by cases q) (by show ¬ (i < 0 ∨ (arrV _ _ _).slots.size ≤ _); rw [arrV_size]; exact vp_of hi) rfl rfl d fun H1 e1 e2 e3 => ?_
    rw [show narrow .byte (.int x) = .int (vp_nar .byte x) from rfl] at e1
    refine kk H1 _ ls (wW_set w a _ rfl (fun j hj => cnE_hI hj) e2 e3 ?_) hlv
    rw [cnE_i (show kd (hI h a i.toNatClampNeg (vp_nar .byte x)) a = 22 from hi.1) (by decide)]
    show H1[B + a]? = some (vp_cell (cA 22) (ln h a, .inl (up2 h.2.1 a i.toNatClampNeg (vp_nar .byte x) a)))
    rw [e1]
    show some ((vp_cell (cA 22) (ln h a, .inl (h.2.1 a))).setSlot _ _) = _
    rw [vp_cell_i, vp_cell_i, arrV_store]
    rw [up2_self, fv_i]
  · cases hg
theorem r_stZ {a : Nat} {i : Int32} {x : Int32} {h' : aH} (C : cX p s m args meth c D cA B Hb own cc nL ret) (d : decode cc pc = .ok (.bastore, 1)) (hg : sZ h a i x = some h') (kk : gW p l e R s m args below meth c Q D cA B Hb nL h' (pc + 1) lv st cells slots) : gW p l e R s m args below meth c Q D cA B Hb nL h pc lv (.int x :: .int i :: .ref a :: st) cells slots := by
  obtain ⟨hx, hb, -, hown, hts, ⟨hK, -⟩, -, -⟩ := C
  unfold sZ at hg
  split at hg
  · rename_i q
    have hi := inb_iff.mp q
    cases hg
    intro H locs ls w hlv
    have hP := wW_at w (a := a) (by rw [hi.1]; decide) 0 _ rfl
    rw [cnE_i hi.1 (by decide)] at hP
    refine W.zast hx hb hP ((hK.2 3 _ rfl).1 (ln h a) (fun j => .int (h.2.1 a j))) (fun q => by cases q) (by show ¬ (i < 0 ∨ (arrV _ _ _).slots.size ≤ _); rw [arrV_size]; exact vp_of hi) rfl rfl d fun H1 e1 e2 e3 => ?_
    rw [show narrow .boolean (.int x) = .int (vp_nar .boolean x) from rfl] at e1
    refine kk H1 _ ls (wW_set w a _ rfl (fun j hj => cnE_hI hj) e2 e3 ?_) hlv
    rw [cnE_i (show kd (hI h a i.toNatClampNeg (vp_nar .boolean x)) a = 23 from hi.1) (by decide)]
    show H1[B + a]? = some (vp_cell (cA 23) (ln h a, .inl (up2 h.2.1 a i.toNatClampNeg (vp_nar .boolean x) a)))
    rw [e1]
    show some ((vp_cell (cA 23) (ln h a, .inl (h.2.1 a))).setSlot _ _) = _
    rw [vp_cell_i, vp_cell_i, arrV_store]
    rw [up2_self, fv_i]
  · cases hg
theorem r_alen {a : Nat} {x : Int32} (C : cX p s m args meth c D cA B Hb own cc nL ret) (d : decode cc pc = .ok (.arraylength, 1)) (hg : aN h a = some x) (kk : gW p l e R s m args below meth c Q D cA B Hb nL h (pc + 1) lv (.int x :: st) cells slots) : gW p l e R s m args below meth c Q D cA B Hb nL h pc lv (.ref a :: st) cells slots := by
  obtain ⟨hx, hb, -, hown, hts, ⟨hK, -⟩, -, -⟩ := C
  unfold aN at hg
  split at hg
  · rename_i q
    cases hg
    intro H locs ls w hlv
    have hP := wW_at w (a := a) (by omega)
    rcases (show kd h a = 20 ∨ kd h a = 21 ∨ kd h a = 22 ∨ kd h a = 23 ∨ kd h a = 24 ∨ kd h a = 25 by omega) with q | q | q | q | q | q
    · rw [cnE_i q (by decide)] at hP
      exact va_alen hx hb hK hP 0 0 rfl rfl rfl d (kk H locs ls w hlv)
    · rw [cnE_j q] at hP
      exact va_alen hx hb hK hP 0 1 rfl rfl rfl d (kk H locs ls w hlv)
    · rw [cnE_i q (by decide)] at hP
      exact va_alen hx hb hK hP 0 2 rfl rfl rfl d (kk H locs ls w hlv)
    · rw [cnE_i q (by decide)] at hP
      exact va_alen hx hb hK hP 0 3 rfl rfl rfl d (kk H locs ls w hlv)
    · rw [cnE_r q (by decide)] at hP
      exact va_alen hx hb hK hP 0 4 rfl rfl rfl d (kk H locs ls w hlv)
    · rw [cnE_r q (by decide)] at hP
      exact va_alen hx hb hK hP 0 5 rfl rfl rfl d (kk H locs ls w hlv)
  · cases hg
end RA
