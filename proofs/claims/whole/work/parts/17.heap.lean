/-! ===== fields and arrays over the picture ===== -/
def gI (h : aH) (c a k : Nat) : Option Int32 := if kd h a = c then some (h.2.1 a k) else none
def gJ (h : aH) (c a k : Nat) : Option Int64 := if kd h a = c then some (h.2.2.1 a k) else none
def gR (h : aH) (c a k : Nat) : Option Nat := if kd h a = c then h.2.2.2 a k else none
def pI (h : aH) (c a k : Nat) (x : Int32) : Option aH := if kd h a = c then some (hI h a k x) else none
def pZ (h : aH) (c a k : Nat) (x : Int32) : Option aH := if kd h a = c ∧ (x = 0 ∨ x = 1) then some (hI h a k x) else none
def pJ (h : aH) (c a k : Nat) (x : Int64) : Option aH := if kd h a = c then some (hJ h a k x) else none
def pR (h : aH) (c a k : Nat) (x : Nat) : Option aH := if kd h a = c then some (hR h a k (some x)) else none
def inb (h : aH) (t a : Nat) (i : Int32) : Prop := kd h a = t ∧ ¬ i < 0 ∧ i.toNatClampNeg < ln h a
def inbD (h : aH) (t a : Nat) (i : Int32) : Bool := kd h a == t && (!decide (i < 0) && decide (i.toNatClampNeg < ln h a))
theorem inb_iff {h : aH} {t a : Nat} {i : Int32} : inbD h t a i = true ↔ inb h t a i := by simp [inbD, inb]
def lI (h : aH) (a : Nat) (i : Int32) : Option Int32 := if inbD h 20 a i then some (h.2.1 a i.toNatClampNeg) else none
def lJ (h : aH) (a : Nat) (i : Int32) : Option Int64 := if inbD h 21 a i then some (h.2.2.1 a i.toNatClampNeg) else none
def lB (h : aH) (a : Nat) (i : Int32) : Option Int32 := if inbD h 22 a i then some (h.2.1 a i.toNatClampNeg) else none
def lZ (h : aH) (a : Nat) (i : Int32) : Option Int32 := if inbD h 23 a i then some (h.2.1 a i.toNatClampNeg) else none
def sI (h : aH) (a : Nat) (i x : Int32) : Option aH := if inbD h 20 a i then some (hI h a i.toNatClampNeg x) else none
def sJ (h : aH) (a : Nat) (i : Int32) (x : Int64) : Option aH := if inbD h 21 a i then some (hJ h a i.toNatClampNeg x) else none
def sB (h : aH) (a : Nat) (i x : Int32) : Option aH := if inbD h 22 a i then some (hI h a i.toNatClampNeg (vp_nar .byte x)) else none
def sZ (h : aH) (a : Nat) (i x : Int32) : Option aH := if inbD h 23 a i then some (hI h a i.toNatClampNeg (vp_nar .boolean x)) else none
def aN (h : aH) (a : Nat) : Option Int32 := if 20 ≤ kd h a ∧ kd h a < 26 then some (Int32.ofNat (ln h a)) else none
theorem cnE_obj {cA : Nat → ClassId} {B : Nat} {h : aH} {a ci : Nat} (hk : kd h a = ci) (hc : ci < 20) : cnE cA B h a = .inr (ci, (ftys ci).mapIdx (cnF B h a)) := by
  unfold cnE
  rw [hk, if_pos hc]
theorem cnE_at {B : Nat} {h : aH} {a ci N k : Nat} {tt : Nat → FieldType} (hf : ftys ci = (List.range N).map tt) (hk : k < N) : ((ftys ci).mapIdx (cnF B h a))[k]? = some (cnF B h a k (tt k)) := by
  rw [List.getElem?_mapIdx, hf, List.getElem?_map, List.getElem?_range hk]
  rfl
theorem cnE_set {B : Nat} {h h' : aH} {a ci N k : Nat} {v : Value} {tt : Nat → FieldType} (hf : ftys ci = (List.range N).map tt) (hne : ∀ j, j ≠ k → cnF B h' a j (tt j) = cnF B h a j (tt j)) (hv : cnF B h' a k (tt k) = v) : ((ftys ci).mapIdx (cnF B h a)).set k v = (ftys ci).mapIdx (cnF B h' a) := by
  apply List.ext_getElem?
  intro j
  rw [List.getElem?_set]
  by_cases hj : k = j
  · subst hj
    rw [if_pos rfl]
    rcases Nat.lt_or_ge k N with q | q
    · rw [cnE_at hf q, hv]
      simp [hf, q]
    · have e : ((ftys ci).mapIdx (cnF B h' a))[k]? = none := List.getElem?_eq_none (by simp [hf]; omega)
      rw [e, if_neg (by simp [hf]; omega)]
  · rw [if_neg hj]
    rcases Nat.lt_or_ge j N with q | q
    · rw [cnE_at hf q, cnE_at hf q, hne j (fun e => hj e.symm)]
    · rw [List.getElem?_eq_none (by simp [hf]; omega), List.getElem?_eq_none (by simp [hf]; omega)]
section RH
variable {p : Program} {l : Launch} {e : Env} {R : Room} {s : State} {m : MethodId} {args : Array Value} {below : List Frame} {meth : Method} {c : Code} {Q : State → Prop} {D : va_G} {cA : Nat → ClassId} {B : Nat} {Hb : Heap} {nL : Nat} {h : aH} {pc : Nat} {lv : List (Nat × Value)} {st : List Value} {cells slots : Nat} {own : String} {cc : ByteArray} {ret : Option FieldType}
theorem r_get {idx ci k a : Nat} {ty : FieldType} {fin : Bool} {v : Value} (C : cX p s m args meth c D cA B Hb own cc nL ret) (F : fK own idx ci k ty fin) (d : decode cc pc = .ok (.getfield idx, 3)) (ha : kd h a = ci) (hv : cnF B h a k ty = cv cA B v)
    (kk : gW p l e R s m args below meth c Q D cA B Hb nL h (pc + 3) lv (v :: st) cells slots) : gW p l e R s m args below meth c Q D cA B Hb nL h pc lv (.ref a :: st) cells slots := by
  obtain ⟨hx, hb, -, hown, hts, ⟨hK, -⟩, -, -⟩ := C
  obtain ⟨CC, T, N, tt, hc, hci, hin, hk, hl, -, hf, rfl, -, -⟩ := F
  intro H locs ls w hlv
  have hP := wW_at w (a := a) (by rw [ha]; omega)
  rw [cnE_obj ha hci] at hP
  exact va_get hx hb hts hin hown hK hP 0 rfl hc k hk (hts _ hl) (fun _ q => q) (by rw [cnE_at hf hk, hv]) d (kk H locs ls w hlv)
theorem r_getI {idx ci k a : Nat} {ty : FieldType} {fin : Bool} {x : Int32} (C : cX p s m args meth c D cA B Hb own cc nL ret) (F : fK own idx ci k ty fin) (ht : ftyOf ty = 0) (d : decode cc pc = .ok (.getfield idx, 3)) (hg : gI h ci a k = some x)
    (kk : gW p l e R s m args below meth c Q D cA B Hb nL h (pc + 3) lv (.int x :: st) cells slots) : gW p l e R s m args below meth c Q D cA B Hb nL h pc lv (.ref a :: st) cells slots := by
  unfold gI at hg
  split at hg
  · rename_i q
    cases hg
    exact r_get C F d q (by simp [cnF, ht, cv]) kk
  · cases hg
theorem r_getJ {idx ci k a : Nat} {ty : FieldType} {fin : Bool} {x : Int64} (C : cX p s m args meth c D cA B Hb own cc nL ret) (F : fK own idx ci k ty fin) (ht : ftyOf ty = 1) (d : decode cc pc = .ok (.getfield idx, 3)) (hg : gJ h ci a k = some x)
    (kk : gW p l e R s m args below meth c Q D cA B Hb nL h (pc + 3) lv (.long x :: st) cells slots) : gW p l e R s m args below meth c Q D cA B Hb nL h pc lv (.ref a :: st) cells slots := by
  unfold gJ at hg
  split at hg
  · rename_i q
    cases hg
    exact r_get C F d q (by simp [cnF, ht, cv]) kk
  · cases hg
theorem r_getR {idx ci k a : Nat} {ty : FieldType} {fin : Bool} {x : Nat} (C : cX p s m args meth c D cA B Hb own cc nL ret) (F : fK own idx ci k ty fin) (ht : ftyOf ty = 2) (d : decode cc pc = .ok (.getfield idx, 3)) (hg : gR h ci a k = some x)
    (kk : gW p l e R s m args below meth c Q D cA B Hb nL h (pc + 3) lv (.ref x :: st) cells slots) : gW p l e R s m args below meth c Q D cA B Hb nL h pc lv (.ref a :: st) cells slots := by
  unfold gR at hg
  split at hg
  · rename_i q
    exact r_get C F d q (by simp [cnF, ht, cv, hg, va_rf]) kk
  · cases hg
theorem r_put {idx ci k a : Nat} {ty : FieldType} {v : Value} {h' : aH} (C : cX p s m args meth c D cA B Hb own cc nL ret) (F : fK own idx ci k ty false) (d : decode cc pc = .ok (.putfield idx, 3)) (ha : kd h a = ci) (hn : narrow ty (cv cA B v) = cv cA B v) (hfit : fits ty (cv cA B v) = true)
    (hs : h'.1 = h.1) (hne : ∀ i, i ≠ a → cnE cA B h' i = cnE cA B h i) (hsl : ∀ j t, j ≠ k → cnF B h' a j t = cnF B h a j t) (hv : cnF B h' a k ty = cv cA B v)
    (kk : gW p l e R s m args below meth c Q D cA B Hb nL h' (pc + 3) lv st cells slots) : gW p l e R s m args below meth c Q D cA B Hb nL h pc lv (v :: .ref a :: st) cells slots := by
  obtain ⟨hx, hb, -, hown, hts, ⟨hK, -⟩, -, -⟩ := C
  obtain ⟨CC, T, N, tt, hc, hci, hin, hk, hl, hfin, hf, rfl, hty, hnm, -⟩ := F
  intro H locs ls w hlv
  have hP := wW_at w (a := a) (by rw [ha]; omega)
  rw [cnE_obj ha hci] at hP
  have hap := va_apart (own := own) hts hin tt hty hnm hK hc
  obtain ⟨r, h1, cell, q1, q2, q3, q4⟩ := hP 0 _ rfl
  have hr : r = (CC, T, N) := Option.some.inj (h1.symm.trans hc)
  subst hr
  obtain ⟨hS, hfc, kC, hkC, hkind⟩ := hK.1 ci _ hc
  obtain ⟨cf, kf, fi, f, hi, hslt⟩ := hS k hk
  have hlay := hts _ (hin _ (u_in_lay hk))
  unfold u_lay at hlay
  rw [if_neg (by rw [hfin]; decide)] at hlay
  have hst := (u_facts hfc hkC (u_lays hts hin hk) hi).1
  have h6 := u_store hfc hkC hkind hlay hi (hty k hk) hn hfit
  refine W.putK hx hb (f := f) ⟨hown, hts _ hl, ⟨_, _, _, hi⟩, hst⟩ (by rw [q2]; exact h6) q1 q3 (by rw [hslt]; exact k2_hasslot (q4 k hk)) rfl rfl d fun H' e1 e2 e3 => ?_
  rw [hslt] at e1 ⊢
  refine kk H' _ ls (wW_set w a _ hs hne e2 e3 ?_) hlv
  rw [cnE_obj (show kd h' a = ci by rw [← ha]; unfold kd; rw [hs]) hci, ← cnE_set hf (fun j hj => hsl j _ hj) hv]
  exact ⟨_, hc, t_OB.to (V := updV (vp_V _) k (cv cA B v)) ⟨_, e1, q2, q3, t_set q4 hap hk (cv cA B v)⟩ (fun j _ => vp_updV_set (by simp [hf]; exact hk) (cv cA B v) j)⟩
end RH
