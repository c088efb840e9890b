/-! ===== stores into fields, new cells, switches, references ===== -/
def zr {α : Type} (f : Nat → Nat → α) (a : Nat) (x : α) : Nat → Nat → α := fun i => if i = a then (fun _ => x) else f i
def hN (h : aH) (c n : Nat) : aH := (h.1 ++ [(c, n)], zr h.2.1 h.1.length 0, zr h.2.2.1 h.1.length 0, zr h.2.2.2 h.1.length none)
theorem kd_hN_lt {h : aH} {c n i : Nat} (hi : i < h.1.length) : kd (hN h c n) i = kd h i := by
  unfold kd hN
  simp [List.getD_eq_getElem?_getD, List.getElem?_append_left hi]
theorem ln_hN_lt {h : aH} {c n i : Nat} (hi : i < h.1.length) : ln (hN h c n) i = ln h i := by
  unfold ln hN
  simp [List.getD_eq_getElem?_getD, List.getElem?_append_left hi]
theorem kd_hN {h : aH} {c n : Nat} : kd (hN h c n) h.1.length = c := by
  unfold kd hN
  simp [List.getD_eq_getElem?_getD]
theorem ln_hN {h : aH} {c n : Nat} : ln (hN h c n) h.1.length = n := by
  unfold ln hN
  simp [List.getD_eq_getElem?_getD]
theorem cnE_hN {cA : Nat → ClassId} {B : Nat} {h : aH} {c n i : Nat} (hi : i < h.1.length) : cnE cA B (hN h c n) i = cnE cA B h i := by
  have hne : i ≠ h.1.length := Nat.ne_of_lt hi
  have e1 : (hN h c n).2.1 i = h.2.1 i := by simp [hN, zr, hne]
  have e2 : (hN h c n).2.2.1 i = h.2.2.1 i := by simp [hN, zr, hne]
  have e3 : (hN h c n).2.2.2 i = h.2.2.2 i := by simp [hN, zr, hne]
  unfold cnE cnF
  rw [e1, e2, e3, kd_hN_lt hi, ln_hN_lt hi]
theorem wW_new {D : va_G} {cA : Nat → ClassId} {B : Nat} {Hb H H1 : Heap} {h : aH} {locs : List Loc} {cc n : Nat} (w : wW D cA B Hb h H locs) (hz : H1.size = H.size + 1) (ho : ∀ q, q < H.size → H1[q]? = H[q]?) (hat : va_at D vwCl (H.size, cnE cA B (hN h cc n) h.1.length) H1) : wW D cA B Hb (hN h cc n) H1 locs := by
  obtain ⟨⟨h1, h2, h3⟩, h4⟩ := w
  refine ⟨⟨by rw [hz, h1]; simp [hN]; omega, fun i hi => ?_, fun q hq => ?_⟩, h4⟩
  · have hi' : i < h.1.length + 1 := by simpa [hN] using hi
    rcases Nat.lt_or_ge i h.1.length with q | q
    · rw [cnE_hN q]
      exact (h2 i q).kept (ho (B + i) (by omega))
    · have e : i = h.1.length := by omega
      subst e
      rw [← h1]
      exact hat
  · rw [ho q (by omega)]; exact h3 q hq
theorem cnF_def {B : Nat} {h : aH} {c n j : Nat} {t : FieldType} (ht : t = .int ∨ t = .boolean ∨ t = .long ∨ (∃ c, t = .object c) ∨ ∃ u, t = .array u) : defaultValue t = cnF B (hN h c n) h.1.length j t := by
  rcases ht with rfl | rfl | rfl | ⟨c, rfl⟩ | ⟨u, rfl⟩ <;> simp [cnF, ftyOf, hN, zr, va_rf, defaultValue]
section RM
variable {p : Program} {l : Launch} {e : Env} {R : Room} {s : State} {m : MethodId} {args : Array Value} {below : List Frame} {meth : Method} {c : Code} {Q : State → Prop} {D : va_G} {cA : Nat → ClassId} {B : Nat} {Hb : Heap} {nL : Nat} {h : aH} {pc : Nat} {lv : List (Nat × Value)} {st : List Value} {cells slots : Nat} {own : String} {cc : ByteArray} {ret : Option FieldType}
theorem cnF_hI {B : Nat} {h : aH} {a k j : Nat} {x : Int32} {t : FieldType} (hj : j ≠ k) : cnF B (hI h a k x) a j t = cnF B h a j t := by simp [cnF, hI, up2_self, va_up, hj]
theorem cnF_hJ {B : Nat} {h : aH} {a k j : Nat} {x : Int64} {t : FieldType} (hj : j ≠ k) : cnF B (hJ h a k x) a j t = cnF B h a j t := by simp [cnF, hJ, up2_self, va_up, hj]
theorem cnF_hR {B : Nat} {h : aH} {a k j : Nat} {x : Option Nat} {t : FieldType} (hj : j ≠ k) : cnF B (hR h a k x) a j t = cnF B h a j t := by simp [cnF, hR, up2_self, va_up, hj]
theorem cnF_hIs {B : Nat} {h : aH} {a k : Nat} {x : Int32} {t : FieldType} (ht : ftyOf t = 0) : cnF B (hI h a k x) a k t = .int x := by simp [cnF, ht, hI, up2_self, va_up]
theorem cnF_hJs {B : Nat} {h : aH} {a k : Nat} {x : Int64} {t : FieldType} (ht : ftyOf t = 1) : cnF B (hJ h a k x) a k t = .long x := by simp [cnF, ht, hJ, up2_self, va_up]
theorem cnF_hRs {B : Nat} {h : aH} {a k : Nat} {x : Nat} {t : FieldType} (ht : ftyOf t = 2) : cnF B (hR h a k (some x)) a k t = .ref (B + x) := by simp [cnF, ht, hR, up2_self, va_up, va_rf]
theorem r_putF {idx ci k a : Nat} {ty : FieldType} {v : Value} {h' : aH} (C : cX p s m args meth c D cA B Hb own cc nL ret) (F : fK own idx ci k ty true) (ho : ∃ T N, vwCl[ci]? = some (own, T, N)) (hini : meth.name = "<init>") (d : decode cc pc = .ok (.putfield idx, 3)) (ha : kd h a = ci) (hn : narrow ty (cv cA B v) = cv cA B v) (hfit : fits ty (cv cA B v) = true)
    (hs : h'.1 = h.1) (hne : ∀ i, i ≠ a → cnE cA B h' i = cnE cA B h i) (hsl : ∀ j t, j ≠ k → cnF B h' a j t = cnF B h a j t) (hv : cnF B h' a k ty = cv cA B v)
    (kk : gW p l e R s m args below meth c Q D cA B Hb nL h' (pc + 3) lv st cells slots) : gW p l e R s m args below meth c Q D cA B Hb nL h pc lv (v :: .ref a :: st) cells slots := by
  obtain ⟨hx, hb, -, hown, hts, ⟨hK, -⟩, -, -⟩ := C
  obtain ⟨CC, T, N, tt, hc, hci, hin, hk, hl, hfin, hf, rfl, hty, hnm, hdecl⟩ := F
  intro H locs ls w hlv
  have hP := wW_at w (a := a) (by rw [ha]; omega)
  rw [cnE_obj ha hci] at hP
  have hap := va_apart (own := own) hts hin tt hty hnm hK hc
  obtain ⟨r, h1, cell, q1, q2, q3, q4⟩ := hP 0 _ rfl
  have hr : r = (CC, T, N) := Option.some.inj (h1.symm.trans hc)
  subst hr
  obtain ⟨hS, hfc, kC, hkC, hkind⟩ := hK.1 ci _ hc
  obtain ⟨cf, kf, fi, f, hi, hslt⟩ := hS k hk
  have hlay := hts _ (hin _ (u_in_lay hk))
  unfold u_lay at hlay
  rw [if_pos hfin] at hlay
  have hst := (u_facts hfc hkC (u_lays hts hin hk) hi).1
  have hcf : m.cls = cf := by
    obtain ⟨_, _, c', _, _, _, -, -, hf', -, -, -, hown2, -⟩ := Cond.laysFinal_spec hlay
    have e1 : c' = cf := by have := hi.symm.trans hf'; simp at this; exact this.1.symm
    rw [hdecl (by obtain ⟨T2, N2, h2⟩ := ho; rw [hc] at h2; cases h2; rfl)] at hown2
    rw [← e1]; exact Option.some.inj (hown.symm.trans hown2)
  have h6 := u_fits hfc hkC hkind (Or.inr hlay) hi (hty k hk) hn hfit
  refine W.putFinK hx hb hown (hts _ hl) hi hst hcf hini (by rw [q2]; exact h6) q1 q3 (by rw [hslt]; exact k2_hasslot (q4 k hk)) rfl rfl d fun H' e1 e2 e3 => ?_
  rw [hslt] at e1 ⊢
  refine kk H' _ ls (wW_set w a _ hs hne e2 e3 ?_) hlv
  rw [cnE_obj (show kd h' a = ci by rw [← ha]; unfold kd; rw [hs]) hci, ← cnE_set hf (fun j hj => hsl j _ hj) hv]
  exact ⟨_, hc, t_OB.to (V := updV (vp_V _) k (cv cA B v)) ⟨_, e1, q2, q3, t_set q4 hap hk (cv cA B v)⟩ (fun j _ => vp_updV_set (by simp [hf]; exact hk) (cv cA B v) j)⟩
theorem r_putI {idx ci k a : Nat} {x : Int32} {h' : aH} (C : cX p s m args meth c D cA B Hb own cc nL ret) (F : fK own idx ci k .int false) (d : decode cc pc = .ok (.putfield idx, 3)) (hg : pI h ci a k x = some h')
    (kk : gW p l e R s m args below meth c Q D cA B Hb nL h' (pc + 3) lv st cells slots) : gW p l e R s m args below meth c Q D cA B Hb nL h pc lv (.int x :: .ref a :: st) cells slots := by
  unfold pI at hg
  split at hg
  · rename_i q
    cases hg
    exact r_put (h' := hI h a k x) C F d q rfl rfl rfl (fun i hi => cnE_hI hi) (fun j t hj => cnF_hI hj) (cnF_hIs rfl) kk
  · cases hg
theorem r_putZ {idx ci k a : Nat} {x : Int32} {h' : aH} (C : cX p s m args meth c D cA B Hb own cc nL ret) (F : fK own idx ci k .boolean false) (d : decode cc pc = .ok (.putfield idx, 3)) (hg : pZ h ci a k x = some h')
    (kk : gW p l e R s m args below meth c Q D cA B Hb nL h' (pc + 3) lv st cells slots) : gW p l e R s m args below meth c Q D cA B Hb nL h pc lv (.int x :: .ref a :: st) cells slots := by
  unfold pZ at hg
  split at hg
  · rename_i q
    cases hg
    exact r_put (h' := hI h a k x) C F d q.1 (by rcases q.2 with rfl | rfl <;> rfl) (by rcases q.2 with rfl | rfl <;> rfl) rfl (fun i hi => cnE_hI hi) (fun j t hj => cnF_hI hj) (cnF_hIs rfl) kk
  · cases hg
theorem r_putJ {idx ci k a : Nat} {x : Int64} {h' : aH} (C : cX p s m args meth c D cA B Hb own cc nL ret) (F : fK own idx ci k .long false) (d : decode cc pc = .ok (.putfield idx, 3)) (hg : pJ h ci a k x = some h')
    (kk : gW p l e R s m args below meth c Q D cA B Hb nL h' (pc + 3) lv st cells slots) : gW p l e R s m args below meth c Q D cA B Hb nL h pc lv (.long x :: .ref a :: st) cells slots := by
  unfold pJ at hg
  split at hg
  · rename_i q
    cases hg
    exact r_put (h' := hJ h a k x) C F d q rfl rfl rfl (fun i hi => cnE_hJ hi) (fun j t hj => cnF_hJ hj) (cnF_hJs rfl) kk
  · cases hg
theorem nar_r {ty : FieldType} {b : Nat} (ht : (∃ c, ty = .object c) ∨ ∃ u, ty = .array u) : narrow ty (.ref b) = .ref b ∧ fits ty (.ref b) = true ∧ ftyOf ty = 2 := by
  rcases ht with ⟨c, rfl⟩ | ⟨u, rfl⟩ <;> exact ⟨rfl, rfl, rfl⟩
theorem r_putR {idx ci k a x : Nat} {ty : FieldType} {h' : aH} (C : cX p s m args meth c D cA B Hb own cc nL ret) (F : fK own idx ci k ty false) (ht : (∃ c, ty = .object c) ∨ ∃ u, ty = .array u) (d : decode cc pc = .ok (.putfield idx, 3)) (hg : pR h ci a k x = some h')
    (kk : gW p l e R s m args below meth c Q D cA B Hb nL h' (pc + 3) lv st cells slots) : gW p l e R s m args below meth c Q D cA B Hb nL h pc lv (.ref x :: .ref a :: st) cells slots := by
  unfold pR at hg
  split at hg
  · rename_i q
    cases hg
    obtain ⟨n1, n2, n3⟩ := nar_r (b := B + x) ht
    exact r_put (h' := hR h a k (some x)) C F d q n1 n2 rfl (fun i hi => cnE_hR hi) (fun j t hj => cnF_hR hj) (cnF_hRs n3) kk
  · cases hg
theorem r_putFR {idx ci k a x : Nat} {ty : FieldType} {h' : aH} (C : cX p s m args meth c D cA B Hb own cc nL ret) (F : fK own idx ci k ty true) (ho : ∃ T N, vwCl[ci]? = some (own, T, N)) (ht : (∃ c, ty = .object c) ∨ ∃ u, ty = .array u) (hini : meth.name = "<init>") (d : decode cc pc = .ok (.putfield idx, 3)) (hg : pR h ci a k x = some h')
    (kk : gW p l e R s m args below meth c Q D cA B Hb nL h' (pc + 3) lv st cells slots) : gW p l e R s m args below meth c Q D cA B Hb nL h pc lv (.ref x :: .ref a :: st) cells slots := by
  unfold pR at hg
  split at hg
  · rename_i q
    cases hg
    obtain ⟨n1, n2, n3⟩ := nar_r (b := B + x) ht
    exact r_putF (h' := hR h a k (some x)) C F ho hini d q n1 n2 rfl (fun i hi => cnE_hR hi) (fun j t hj => cnF_hR hj) (cnF_hRs n3) kk
  · cases hg
theorem r_new {idx ci N : Nat} (C : cX p s m args meth c D cA B Hb own cc nL ret) (F : nK own idx ci N) (d : decode cc pc = .ok (.new idx, 3)) (hf : cells + 1 ≤ R.cells ∧ slots + N ≤ R.slots)
    (kk : gW p l e R s m args below meth c Q D cA B Hb nL (hN h ci N) (pc + 3) lv (.ref h.1.length :: st) (cells + 1) (slots + N)) : gW p l e R s m args below meth c Q D cA B Hb nL h pc lv st cells slots := by
  obtain ⟨hx, hb, -, hown, hts, ⟨hK, -⟩, -, -⟩ := C
  obtain ⟨CC, T, tt, hc, hci, hin, hcl, hinst, hini, hft, hty, htt⟩ := F
  intro H locs ls w hlv
  have hKn := hK.1 ci _ hc
  refine W.newcK hx hb hown (hts _ hcl) (hts _ hinst) (hts _ hini) rfl d hf.1 hf.2 hKn.2.1 rfl fun H1 kC hkC e1 z1 o1 => ?_
  have e2 := kk H1 locs ls (wW_new w z1 o1 ?_) hlv
  · rw [List.map_cons, show cv cA B (.ref h.1.length) = .ref H.size by rw [w.1.1]; rfl] at e2
    exact e2
  · rw [cnE_obj kd_hN hci]
    refine ⟨_, hc, (u_born tt hts hin hKn hkC e1 hty).to fun j hj => ?_⟩
    show defaultValue (tt j) = ((ftys ci).mapIdx (cnF B (hN h ci N) h.1.length)).getD j .null
    rw [List.getD_eq_getElem?_getD, cnE_at hft hj]
    exact cnF_def (htt j hj)
theorem r_newI {n : Int32} {N : Nat} (C : cX p s m args meth c D cA B Hb own cc nL ret) (hT : Cond.arrayClass .int ∈ tB) (d : decode cc pc = .ok (.newarray .int, 2)) (hn : ¬ n < 0) (hN' : n.toNatClampNeg = N) (hby : N * 4 ≤ 536870912) (hf : cells + 1 ≤ R.cells ∧ slots + N ≤ R.slots)
    (kk : gW p l e R s m args below meth c Q D cA B Hb nL (hN h 20 N) (pc + 2) lv (.ref h.1.length :: st) (cells + 1) (slots + N)) : gW p l e R s m args below meth c Q D cA B Hb nL h pc lv (.int n :: st) cells slots := by
  obtain ⟨hx, hb, -, hown, hts, ⟨hK, -⟩, -, -⟩ := C
  intro H locs ls w hlv
  refine va_newaK (atype := .int) hx hb (hts _ hT) rfl d rfl hn hN' hby hf.1 hf.2 rfl fun H1 cA' e1 z1 o1 hAr hNm => ?_
  have hcA : cA' = cA 20 := Option.some.inj (hNm.symm.trans (hK.2 0 _ rfl).2)
  subst hcA
  have e2 := kk H1 locs ls (wW_new w z1 o1 ?_) hlv
  · rw [List.map_cons, show cv cA B (.ref h.1.length) = .ref H.size by rw [w.1.1]; rfl] at e2
    exact e2
  · rw [cnE_i kd_hN (by decide), ln_hN]
    show H1[H.size]? = some (vp_cell (cA 20) (N, .inl (zr h.2.1 h.1.length 0 h.1.length)))
    rw [e1, vp_cell_i]
    simp [zr, newarray.typeOf, defaultValue]
theorem r_newJ {n : Int32} {N : Nat} (C : cX p s m args meth c D cA B Hb own cc nL ret) (hT : Cond.arrayClass .long ∈ tB) (d : decode cc pc = .ok (.newarray .long, 2)) (hn : ¬ n < 0) (hN' : n.toNatClampNeg = N) (hby : N * 8 ≤ 536870912) (hf : cells + 1 ≤ R.cells ∧ slots + N ≤ R.slots)
    (kk : gW p l e R s m args below meth c Q D cA B Hb nL (hN h 21 N) (pc + 2) lv (.ref h.1.length :: st) (cells + 1) (slots + N)) : gW p l e R s m args below meth c Q D cA B Hb nL h pc lv (.int n :: st) cells slots := by
  obtain ⟨hx, hb, -, hown, hts, ⟨hK, -⟩, -, -⟩ := C
  intro H locs ls w hlv
  refine va_newaK (atype := .long) hx hb (hts _ hT) rfl d rfl hn hN' hby hf.1 hf.2 rfl fun H1 cA' e1 z1 o1 hAr hNm => ?_
  have hcA : cA' = cA 21 := Option.some.inj (hNm.symm.trans (hK.2 1 _ rfl).2)
  subst hcA
  have e2 := kk H1 locs ls (wW_new w z1 o1 ?_) hlv
  · rw [List.map_cons, show cv cA B (.ref h.1.length) = .ref H.size by rw [w.1.1]; rfl] at e2
    exact e2
  · rw [cnE_j kd_hN, ln_hN]
    show H1[H.size]? = some (vp_cell (cA 21) (N, .inr (.inl (zr h.2.2.1 h.1.length 0 h.1.length))))
    rw [e1, vp_cell_l]
    simp [zr, newarray.typeOf, defaultValue]
theorem r_newB {n : Int32} {N : Nat} (C : cX p s m args meth c D cA B Hb own cc nL ret) (hT : Cond.arrayClass .byte ∈ tB) (d : decode cc pc = .ok (.newarray .byte, 2)) (hn : ¬ n < 0) (hN' : n.toNatClampNeg = N) (hby : N * 1 ≤ 536870912) (hf : cells + 1 ≤ R.cells ∧ slots + N ≤ R.slots)
    (kk : gW p l e R s m args below meth c Q D cA B Hb nL (hN h 22 N) (pc + 2) lv (.ref h.1.length :: st) (cells + 1) (slots + N)) : gW p l e R s m args below meth c Q D cA B Hb nL h pc lv (.int n :: st) cells slots := by
  obtain ⟨hx, hb, -, hown, hts, ⟨hK, -⟩, -, -⟩ := C
  intro H locs ls w hlv
  refine va_newaK (atype := .byte) hx hb (hts _ hT) rfl d rfl hn hN' hby hf.1 hf.2 rfl fun H1 cA' e1 z1 o1 hAr hNm => ?_
  have hcA : cA' = cA 22 := Option.some.inj (hNm.symm.trans (hK.2 2 _ rfl).2)
  subst hcA
  have e2 := kk H1 locs ls (wW_new w z1 o1 ?_) hlv
  · rw [List.map_cons, show cv cA B (.ref h.1.length) = .ref H.size by rw [w.1.1]; rfl] at e2
    exact e2
  · rw [cnE_i kd_hN (by decide), ln_hN]
    show H1[H.size]? = some (vp_cell (cA 22) (N, .inl (zr h.2.1 h.1.length 0 h.1.length)))
    rw [e1, vp_cell_i]
    simp [zr, newarray.typeOf, defaultValue]
theorem r_newZ {n : Int32} {N : Nat} (C : cX p s m args meth c D cA B Hb own cc nL ret) (hT : Cond.arrayClass .boolean ∈ tB) (d : decode cc pc = .ok (.newarray .boolean, 2)) (hn : ¬ n < 0) (hN' : n.toNatClampNeg = N) (hby : N * 1 ≤ 536870912) (hf : cells + 1 ≤ R.cells ∧ slots + N ≤ R.slots)
    (kk : gW p l e R s m args below meth c Q D cA B Hb nL (hN h 23 N) (pc + 2) lv (.ref h.1.length :: st) (cells + 1) (slots + N)) : gW p l e R s m args below meth c Q D cA B Hb nL h pc lv (.int n :: st) cells slots := by
  obtain ⟨hx, hb, -, hown, hts, ⟨hK, -⟩, -, -⟩ := C
  intro H locs ls w hlv
  refine va_newaK (atype := .boolean) hx hb (hts _ hT) rfl d rfl hn hN' hby hf.1 hf.2 rfl fun H1 cA' e1 z1 o1 hAr hNm => ?_
  have hcA : cA' = cA 23 := Option.some.inj (hNm.symm.trans (hK.2 3 _ rfl).2)
  subst hcA
  have e2 := kk H1 locs ls (wW_new w z1 o1 ?_) hlv
  · rw [List.map_cons, show cv cA B (.ref h.1.length) = .ref H.size by rw [w.1.1]; rfl] at e2
    exact e2
  · rw [cnE_i kd_hN (by decide), ln_hN]
    show H1[H.size]? = some (vp_cell (cA 23) (N, .inl (zr h.2.1 h.1.length 0 h.1.length)))
    rw [e1, vp_cell_i]
    simp [zr, newarray.typeOf, defaultValue]
theorem r_tabIn {dflt lo hi off : Int} {offs : Array Int} {len tgt : Nat} {x k : Int32} (C : cX p s m args meth c D cA B Hb own cc nL ret) (d : decode cc pc = .ok (.tableswitch dflt lo hi offs, len)) (hx : x = k) (h1 : ¬ k.toInt < lo) (h2 : ¬ hi < k.toInt) (ho : offs[(k.toInt - lo).toNat]? = some off) (ht : (pc : Int) + off = (tgt : Int))
    (kk : gW p l e R s m args below meth c Q D cA B Hb nL h tgt lv st cells slots) : gW p l e R s m args below meth c Q D cA B Hb nL h pc lv (.int x :: st) cells slots := by
  subst hx
  exact fun H locs ls w hl => lv_tableIn C.1 C.2.1 d h1 h2 ho ht (kk H locs ls w hl)
theorem tsw {x : Int32} {lo hi : Int} (hh : ∀ j : Int, lo ≤ j → j ≤ hi → ¬ x.toInt = j) : x.toInt < lo ∨ hi < x.toInt := by
  rcases Int.lt_or_le x.toInt lo with q | q
  · exact Or.inl q
  · rcases Int.lt_or_le hi x.toInt with z | z
    · exact Or.inr z
    · exact absurd rfl (hh _ q z)
theorem tsw_ne {x k : Int32} (h : ¬ x = k) : ¬ x.toInt = k.toInt := fun q => h (Int32.toInt_inj.mp q)
theorem r_tabOut {dflt lo hi : Int} {offs : Array Int} {len tgt : Nat} {x : Int32} (C : cX p s m args meth c D cA B Hb own cc nL ret) (d : decode cc pc = .ok (.tableswitch dflt lo hi offs, len)) (hx : x.toInt < lo ∨ hi < x.toInt) (ht : (pc : Int) + dflt = (tgt : Int))
    (kk : gW p l e R s m args below meth c Q D cA B Hb nL h tgt lv st cells slots) : gW p l e R s m args below meth c Q D cA B Hb nL h pc lv (.int x :: st) cells slots :=
  fun H locs ls w hl => lv_tableOut C.1 C.2.1 d hx ht (kk H locs ls w hl)
theorem r_lookup {dflt off : Int} {ps : Array (Int × Int)} {len tgt : Nat} {x : Int32} (C : cX p s m args meth c D cA B Hb own cc nL ret) (d : decode cc pc = .ok (.lookupswitch dflt ps, len)) (hp : (ps.toList.zip (ps.toList.drop 1)).all (fun (a, next) => a.1 < next.1) = true) (ho : Op.lookupswitch.offset ps.toList dflt x.toInt = off) (ht : (pc : Int) + off = (tgt : Int))
    (kk : gW p l e R s m args below meth c Q D cA B Hb nL h tgt lv st cells slots) : gW p l e R s m args below meth c Q D cA B Hb nL h pc lv (.int x :: st) cells slots :=
  fun H locs ls w hl => lv_lookup C.1 C.2.1 d hp ho ht (kk H locs ls w hl)
end RM
/-! ===== binds, loops ===== -/
theorem ob {α β : Type} {o : Option α} {k : α → Option β} {x : β} (h : o.bind k = some x) : ∃ v, o = some v ∧ k v = some x := Option.bind_eq_some_iff.mp h
def bd2 {α β γ : Type} (o : Option (α × β)) (k : α → β → Option γ) : Option γ := o.bind fun q => k q.1 q.2
def bd3 {α β γ δ : Type} (o : Option (α × β × γ)) (k : α → β → γ → Option δ) : Option δ := o.bind fun q => k q.1 q.2.1 q.2.2
def bd4 {α β γ δ ε : Type} (o : Option (α × β × γ × δ)) (k : α → β → γ → δ → Option ε) : Option ε := o.bind fun q => k q.1 q.2.1 q.2.2.1 q.2.2.2
def bd5 {α β γ δ ε ζ : Type} (o : Option (α × β × γ × δ × ε)) (k : α → β → γ → δ → ε → Option ζ) : Option ζ := o.bind fun q => k q.1 q.2.1 q.2.2.1 q.2.2.2.1 q.2.2.2.2
theorem ob2 {α β γ : Type} {o : Option (α × β)} {k : α → β → Option γ} {x : γ} (h : bd2 o k = some x) : ∃ a b, o = some (a, b) ∧ k a b = some x := by
  obtain ⟨⟨a, b⟩, h1, h2⟩ := ob h
  exact ⟨a, b, h1, h2⟩
theorem ob3 {α β γ δ : Type} {o : Option (α × β × γ)} {k : α → β → γ → Option δ} {x : δ} (h : bd3 o k = some x) : ∃ a b c, o = some (a, b, c) ∧ k a b c = some x := by
  obtain ⟨⟨a, b, c⟩, h1, h2⟩ := ob h
  exact ⟨a, b, c, h1, h2⟩
theorem ob4 {α β γ δ ε : Type} {o : Option (α × β × γ × δ)} {k : α → β → γ → δ → Option ε} {x : ε} (h : bd4 o k = some x) : ∃ a b c d, o = some (a, b, c, d) ∧ k a b c d = some x := by
  obtain ⟨⟨a, b, c, d⟩, h1, h2⟩ := ob h
  exact ⟨a, b, c, d, h1, h2⟩
theorem ob5 {α β γ δ ε ζ : Type} {o : Option (α × β × γ × δ × ε)} {k : α → β → γ → δ → ε → Option ζ} {x : ζ} (h : bd5 o k = some x) : ∃ a b c d e, o = some (a, b, c, d, e) ∧ k a b c d e = some x := by
  obtain ⟨⟨a, b, c, d, e⟩, h1, h2⟩ := ob h
  exact ⟨a, b, c, d, e, h1, h2⟩
theorem so {α : Type} {a b : α} (h : some a = some b) : a = b := Option.some.inj h
theorem so2 {α β : Type} {a b : α} {c d : β} (h : some (a, c) = some (b, d)) : a = b ∧ c = d := by cases h; exact ⟨rfl, rfl⟩
theorem so3 {α β γ : Type} {a b : α} {c d : β} {e f : γ} (h : some (a, c, e) = some (b, d, f)) : a = b ∧ c = d ∧ e = f := by cases h; exact ⟨rfl, rfl, rfl⟩
theorem so4 {α β γ δ : Type} {a b : α} {c d : β} {e f : γ} {g k : δ} (h : some (a, c, e, g) = some (b, d, f, k)) : a = b ∧ c = d ∧ e = f ∧ g = k := by cases h; exact ⟨rfl, rfl, rfl, rfl⟩
theorem so5 {α β γ δ ε : Type} {a b : α} {c d : β} {e f : γ} {g k : δ} {i j : ε} (h : some (a, c, e, g, i) = some (b, d, f, k, j)) : a = b ∧ c = d ∧ e = f ∧ g = k ∧ i = j := by cases h; exact ⟨rfl, rfl, rfl, rfl, rfl⟩
def wN : Nat := 1000000
def wlK {S E : Type} (w : S → Option E) (x : S ⊕ E) : Option E := match x with
  | .inl s => w s
  | .inr r => some r
def whileL {S E : Type} : Nat → (S → Option (S ⊕ E)) → S → Option E
  | 0, _, _ => none
  | n + 1, b, s => (b s).bind (wlK (whileL n b))
theorem wl {S E : Type} {n : Nat} {b : S → Option (S ⊕ E)} {s : S} {e : E} (h : whileL (n + 1) b s = some e) : ∃ x, b s = some x ∧ wlK (whileL n b) x = some e := ob h
def ck (h : aH) (c a : Nat) : Option Unit := if kd h a = c then some () else none
theorem ck_k {h : aH} {c a : Nat} {u : Unit} (q : ck h c a = some u) : kd h a = c := by
  unfold ck at q
  split at q
  · assumption
  · cases q
def rZ (x : Int32) : Option Int32 := if x = 0 ∨ x = 1 then some x else none
theorem rZ_k {x y : Int32} (q : rZ x = some y) : x = y ∧ (y = 0 ∨ y = 1) := by
  unfold rZ at q
  split at q
  · cases q
    exact ⟨rfl, by assumption⟩
  · cases q
def nz (x : Int32) : Option Unit := if x = 0 then none else some ()
def nzL (x : Int64) : Option Unit := if x = 0 then none else some ()
theorem nz_k {x : Int32} {u : Unit} (q : nz x = some u) : ¬ x = 0 := by
  unfold nz at q
  split at q
  · cases q
  · assumption
theorem nzL_k {x : Int64} {u : Unit} (q : nzL x = some u) : ¬ x = 0 := by
  unfold nzL at q
  split at q
  · cases q
  · assumption
theorem r_subk {p : Program} {l : Launch} {e : Env} {R : Room} {s : State} {m : MethodId} {args : Array Value} {below : List Frame} {meth : Method} {c : Code} {Q : State → Prop} {D : va_G} {cA : Nat → ClassId} {B : Nat} {Hb : Heap} {nL : Nat} {h : aH} {pc : Nat} {lv : List (Nat × Value)} {st : List Value} {cells slots : Nat} {lv' : List (Nat × Value)} (ks : List Nat) (hs : lv_pick lv ks = lv') (k : gW p l e R s m args below meth c Q D cA B Hb nL h pc lv' st cells slots) : gW p l e R s m args below meth c Q D cA B Hb nL h pc lv st cells slots :=
  r_sub (fun q hq => by
    rw [← hs] at hq
    obtain ⟨i, -, hi⟩ := List.mem_filterMap.mp hq
    exact List.mem_of_getElem? hi) k
