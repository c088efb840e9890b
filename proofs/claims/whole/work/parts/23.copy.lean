/-! ===== System.arraycopy, references out of arrays ===== -/
def inCp (h : aH) (t a0 : Nat) (sp : Int32) (a : Nat) (dp n : Int32) : Prop := kd h a0 = t ∧ kd h a = t ∧ ¬ sp < 0 ∧ ¬ dp < 0 ∧ ¬ n < 0 ∧ sp.toNatClampNeg + n.toNatClampNeg ≤ ln h a0 ∧ dp.toNatClampNeg + n.toNatClampNeg ≤ ln h a
def inCpD (h : aH) (t a0 : Nat) (sp : Int32) (a : Nat) (dp n : Int32) : Bool := kd h a0 == t && kd h a == t && !decide (sp < 0) && !decide (dp < 0) && !decide (n < 0) && decide (sp.toNatClampNeg + n.toNatClampNeg ≤ ln h a0) && decide (dp.toNatClampNeg + n.toNatClampNeg ≤ ln h a)
theorem inCp_iff {h : aH} {t a0 : Nat} {sp : Int32} {a : Nat} {dp n : Int32} : inCpD h t a0 sp a dp n = true ↔ inCp h t a0 sp a dp n := by simp [inCpD, inCp, and_assoc]
def hCI (h : aH) (a0 sp a dp n : Nat) : aH := (h.1, (fun i => if i = a then va_cpy (h.2.1 a0) (h.2.1 a) sp dp n else h.2.1 i), h.2.2.1, h.2.2.2)
def hCJ (h : aH) (a0 sp a dp n : Nat) : aH := (h.1, h.2.1, (fun i => if i = a then va_cpy (h.2.2.1 a0) (h.2.2.1 a) sp dp n else h.2.2.1 i), h.2.2.2)
def cpI (h : aH) (a0 : Nat) (sp : Int32) (a : Nat) (dp n : Int32) : Option aH := if inCpD h 20 a0 sp a dp n then some (hCI h a0 sp.toNatClampNeg a dp.toNatClampNeg n.toNatClampNeg) else none
def cpJ (h : aH) (a0 : Nat) (sp : Int32) (a : Nat) (dp n : Int32) : Option aH := if inCpD h 21 a0 sp a dp n then some (hCJ h a0 sp.toNatClampNeg a dp.toNatClampNeg n.toNatClampNeg) else none
theorem tb_an : Cond.native arraycopyName ∈ tB := in_tB 830 (by decide +kernel) (by decide +kernel)
theorem tb_as : Cond.static arraycopyName ∈ tB := in_tB 829 (by decide +kernel) (by decide +kernel)
theorem tb_ai : Cond.initialized "java/lang/System" ∈ tB := in_tB 165 (by decide +kernel) (by decide +kernel)
theorem clampI (z : Int32) (hz : ¬ z < 0) : z.toInt = (z.toNatClampNeg : Int) := by
  have hz0 : (0 : Int) ≤ z.toInt := by
    have := Int32.not_lt.mp hz
    simpa using Int32.le_iff_toInt_le.mp this
  show z.toInt = ((z.toInt.toNat : Nat) : Int)
  omega
theorem wW_locs {D : va_G} {cA : Nat → ClassId} {B : Nat} {Hb H : Heap} {h : aH} {locs locs' : List Loc} (w : wW D cA B Hb h H locs) (hl : ∀ q ∈ locs', B ≤ q.base) : wW D cA B Hb h H locs' := ⟨w.1, hl⟩
section RP
variable {p : Program} {l : Launch} {e : Env} {R : Room} {s : State} {m : MethodId} {args : Array Value} {below : List Frame} {meth : Method} {c : Code} {Q : State → Prop} {D : va_G} {cA : Nat → ClassId} {B : Nat} {Hb : Heap} {nL : Nat} {h : aH} {pc : Nat} {lv : List (Nat × Value)} {st : List Value} {cells slots : Nat} {own : String} {cc : ByteArray} {ret : Option FieldType}
theorem r_cpI {idx a0 a : Nat} {sp dp n : Int32} {h' : aH} (C : cX p s m args meth c D cA B Hb own cc nL ret) (hlk : Cond.methodLink own idx arraycopyName ∈ tB) (d : decode cc pc = .ok (.invokestatic idx, 3)) (hR : 1 ≤ R.frames ∧ 60 ≤ R.locals) (hW : (st.map fun v => v.category).sum ≤ 8) (hg : cpI h a0 sp a dp n = some h')
    (kk : gW p l e R s m args below meth c Q D cA B Hb nL h' (pc + 3) lv st cells slots) : gW p l e R s m args below meth c Q D cA B Hb nL h pc lv (.int n :: .int dp :: .ref a :: .int sp :: .ref a0 :: st) cells slots := by
  obtain ⟨hx, hb, hml, hown, hts, ⟨hK, -⟩, -, -⟩ := C
  unfold cpI at hg
  split at hg
  · rename_i q
    obtain ⟨k0, k1, h1, h2, h3, h4, h5⟩ := inCp_iff.mp q
    cases hg
    intro H locs ls w hlv T hT X
    have hP0 := wW_at w (a := a0) (by rw [k0]; decide) 0 _ rfl
    have hP1 := wW_at w (a := a) (by rw [k1]; decide) 0 _ rfl
    rw [cnE_i k0 (by decide)] at hP0
    rw [cnE_i k1 (by decide)] at hP1
    have hc0 : H[B + a0]? = some (vp_cell (cA 20) (ln h a0, .inl (h.2.1 a0))) := hP0
    have hc1 : H[B + a]? = some (vp_cell (cA 20) (ln h a, .inl (h.2.1 a))) := hP1
    obtain ⟨-, x0, hx0, cm0, hkk0⟩ := (hK.2 0 _ rfl).1 (ln h a0) (fun j => .int (h.2.1 a0 j))
    obtain ⟨-, x1, hx1, cm1, hkk1⟩ := (hK.2 0 _ rfl).1 (ln h a) (fun j => .int (h.2.1 a j))
    obtain ⟨vm', X', step⟩ := X.arraycopy hx hown (hts _ hlk) (hts _ tb_an) (hts _ tb_as) (hts _ tb_ai) (src := B + a0) (dst := B + a) (cs := vp_cell (cA 20) (ln h a0, .inl (h.2.1 a0))) (cd := vp_cell (cA 20) (ln h a, .inl (h.2.1 a))) (srcPos := sp) (destPos := dp) (n := n) (by rw [hT]; exact hc0) (by rw [hT]; exact hc1)
      (fun _ h => by cases h) (fun _ h => by cases h) (fun h => by cases h) (fun h => by cases h) hx0 hx1 hkk0 hkk1 (by rfl) h1 h2 h3
      (by rw [clampI sp h1, clampI n h3]; show ¬ _ > ((arrV (cA 20) (ln h a0) (fun j => .int (h.2.1 a0 j))).slots.size : Int); rw [arrV_size]; omega)
      (by rw [clampI dp h2, clampI n h3]; show ¬ _ > ((arrV (cA 20) (ln h a) (fun j => .int (h.2.1 a j))).slots.size : Int); rw [arrV_size]; omega)
      (fun vm₁ _ i hi => by
        have e : (vp_cell (cA 20) (ln h a0, .inl (h.2.1 a0))).slots.getD (sp.toNatClampNeg + i) .null = .int (h.2.1 a0 (sp.toNatClampNeg + i)) := by
          show (arrV (cA 20) (ln h a0) (fun j => .int (h.2.1 a0 j))).slots.getD _ _ = _
          rw [Array.getD_eq_getD_getElem?, arrV_read _ _ (by omega)]
          rfl
        refine ⟨?_, ?_⟩
        · rw [e]
          rfl
        · rw [e]
          exact trivial)
      (g := F0 m pc ls ((.int n :: .int dp :: .ref a :: .int sp :: .ref a0 :: st).map (cv cA B))) rfl (by rw [hml]; exact hlv.1) (rest := st.map (cv cA B)) rfl (by rw [hb]; exact d) hR.1 (by
        show 2 * 0 + _ + _ ≤ _
        rw [List.map_map, show ((fun v : Value => v.category) ∘ cv cA B) = (fun v => v.category) from funext (cv_cat cA B)]
        have : nativeFrameWords "java/lang/System" "arraycopy" 5 + 11 ≤ 52 := by decide +kernel
        omega)
    have e1 : copied (vp_cell (cA 20) (ln h a0, .inl (h.2.1 a0))) (vp_cell (cA 20) (ln h a, .inl (h.2.1 a))) sp dp n = vp_cell (cA 20) (ln h a, .inl (va_cpy (h.2.1 a0) (h.2.1 a) sp.toNatClampNeg dp.toNatClampNeg n.toNatClampNeg)) := va_copied (fun z => .int z) (cA 20) (cA 20) (h.2.1 a0) (h.2.1 a) h4
    rw [e1] at X' step
    have hl : B + a < H.size := (Array.getElem?_eq_some_iff.mp hc1).1
    obtain ⟨t, a1, b1⟩ := kk _ _ ls (wW_locs (wW_set (H1 := H.setIfInBounds (B + a) (vp_cell (cA 20) (ln h a, .inl (va_cpy (h.2.1 a0) (h.2.1 a) sp.toNatClampNeg dp.toNatClampNeg n.toNatClampNeg)))) (h' := hCI h a0 sp.toNatClampNeg a dp.toNatClampNeg n.toNatClampNeg) w a 0 rfl (fun i hi => by
        have e2 : (hCI h a0 sp.toNatClampNeg a dp.toNatClampNeg n.toNatClampNeg).2.1 i = h.2.1 i := by simp [hCI, hi]
        unfold cnE cnF
        rw [e2]
        rfl) (by simp) (fun q hq => by simp [Array.getElem?_setIfInBounds, Ne.symm hq]) (by
        rw [cnE_i (show kd (hCI h a0 sp.toNatClampNeg a dp.toNatClampNeg n.toNatClampNeg) a = 20 from k1) (by decide)]
        show (H.setIfInBounds (B + a) _)[B + a]? = some (vp_cell (cA 20) (ln h a, .inl ((hCI h a0 sp.toNatClampNeg a dp.toNatClampNeg n.toNatClampNeg).2.1 a)))
        simp [Array.getElem?_setIfInBounds, hl, hCI])) (locs' := locs ++ ((vp_cell (cA 20) (ln h a0, .inl (h.2.1 a0))).stretch sp.toNatClampNeg n.toNatClampNeg).zipIdx.map fun q => ⟨B + a, dp.toNatClampNeg + q.2⟩) (fun q hq => by
        rcases List.mem_append.mp hq with h | h
        · exact w.2 q h
        · obtain ⟨z, -, hz⟩ := List.mem_map.mp h
          rw [← hz]
          exact Nat.le_add_right _ _)) hlv _ (by rw [← hT]; rfl) X'
    exact ⟨t, step t a1, b1⟩
  · cases hg
theorem r_cpJ {idx a0 a : Nat} {sp dp n : Int32} {h' : aH} (C : cX p s m args meth c D cA B Hb own cc nL ret) (hlk : Cond.methodLink own idx arraycopyName ∈ tB) (d : decode cc pc = .ok (.invokestatic idx, 3)) (hR : 1 ≤ R.frames ∧ 60 ≤ R.locals) (hW : (st.map fun v => v.category).sum ≤ 8) (hg : cpJ h a0 sp a dp n = some h')
    (kk : gW p l e R s m args below meth c Q D cA B Hb nL h' (pc + 3) lv st cells slots) : gW p l e R s m args below meth c Q D cA B Hb nL h pc lv (.int n :: .int dp :: .ref a :: .int sp :: .ref a0 :: st) cells slots := by
  obtain ⟨hx, hb, hml, hown, hts, ⟨hK, -⟩, -, -⟩ := C
  unfold cpJ at hg
  split at hg
  · rename_i q
    obtain ⟨k0, k1, h1, h2, h3, h4, h5⟩ := inCp_iff.mp q
    cases hg
    intro H locs ls w hlv T hT X
    have hP0 := wW_at w (a := a0) (by rw [k0]; decide) 0 _ rfl
    have hP1 := wW_at w (a := a) (by rw [k1]; decide) 0 _ rfl
    rw [cnE_j k0] at hP0
    rw [cnE_j k1] at hP1
    have hc0 : H[B + a0]? = some (vp_cell (cA 21) (ln h a0, .inr (.inl (h.2.2.1 a0)))) := hP0
    have hc1 : H[B + a]? = some (vp_cell (cA 21) (ln h a, .inr (.inl (h.2.2.1 a)))) := hP1
    obtain ⟨-, x0, hx0, cm0, hkk0⟩ := (hK.2 1 _ rfl).1 (ln h a0) (fun j => .long (h.2.2.1 a0 j))
    obtain ⟨-, x1, hx1, cm1, hkk1⟩ := (hK.2 1 _ rfl).1 (ln h a) (fun j => .long (h.2.2.1 a j))
    obtain ⟨vm', X', step⟩ := X.arraycopy hx hown (hts _ hlk) (hts _ tb_an) (hts _ tb_as) (hts _ tb_ai) (src := B + a0) (dst := B + a) (cs := vp_cell (cA 21) (ln h a0, .inr (.inl (h.2.2.1 a0)))) (cd := vp_cell (cA 21) (ln h a, .inr (.inl (h.2.2.1 a)))) (srcPos := sp) (destPos := dp) (n := n) (by rw [hT]; exact hc0) (by rw [hT]; exact hc1)
      (fun _ h => by cases h) (fun _ h => by cases h) (fun h => by cases h) (fun h => by cases h) hx0 hx1 hkk0 hkk1 (by rfl) h1 h2 h3
      (by rw [clampI sp h1, clampI n h3]; show ¬ _ > ((arrV (cA 21) (ln h a0) (fun j => .long (h.2.2.1 a0 j))).slots.size : Int); rw [arrV_size]; omega)
      (by rw [clampI dp h2, clampI n h3]; show ¬ _ > ((arrV (cA 21) (ln h a) (fun j => .long (h.2.2.1 a j))).slots.size : Int); rw [arrV_size]; omega)
      (fun vm₁ _ i hi => by
        have e : (vp_cell (cA 21) (ln h a0, .inr (.inl (h.2.2.1 a0)))).slots.getD (sp.toNatClampNeg + i) .null = .long (h.2.2.1 a0 (sp.toNatClampNeg + i)) := by
          show (arrV (cA 21) (ln h a0) (fun j => .long (h.2.2.1 a0 j))).slots.getD _ _ = _
          rw [Array.getD_eq_getD_getElem?, arrV_read _ _ (by omega)]
          rfl
        refine ⟨?_, ?_⟩
        · rw [e]
          rfl
        · rw [e]
          exact trivial)
      (g := F0 m pc ls ((.int n :: .int dp :: .ref a :: .int sp :: .ref a0 :: st).map (cv cA B))) rfl (by rw [hml]; exact hlv.1) (rest := st.map (cv cA B)) rfl (by rw [hb]; exact d) hR.1 (by
        show 2 * 0 + _ + _ ≤ _
        rw [List.map_map, show ((fun v : Value => v.category) ∘ cv cA B) = (fun v => v.category) from funext (cv_cat cA B)]
        have : nativeFrameWords "java/lang/System" "arraycopy" 5 + 11 ≤ 52 := by decide +kernel
        omega)
    have e1 : copied (vp_cell (cA 21) (ln h a0, .inr (.inl (h.2.2.1 a0)))) (vp_cell (cA 21) (ln h a, .inr (.inl (h.2.2.1 a)))) sp dp n = vp_cell (cA 21) (ln h a, .inr (.inl (va_cpy (h.2.2.1 a0) (h.2.2.1 a) sp.toNatClampNeg dp.toNatClampNeg n.toNatClampNeg))) := va_copied (fun z => .long z) (cA 21) (cA 21) (h.2.2.1 a0) (h.2.2.1 a) h4
    rw [e1] at X' step
    have hl : B + a < H.size := (Array.getElem?_eq_some_iff.mp hc1).1
    obtain ⟨t, a1, b1⟩ := kk _ _ ls (wW_locs (wW_set (H1 := H.setIfInBounds (B + a) (vp_cell (cA 21) (ln h a, .inr (.inl (va_cpy (h.2.2.1 a0) (h.2.2.1 a) sp.toNatClampNeg dp.toNatClampNeg n.toNatClampNeg))))) (h' := hCJ h a0 sp.toNatClampNeg a dp.toNatClampNeg n.toNatClampNeg) w a 0 rfl (fun i hi => by
        have e2 : (hCJ h a0 sp.toNatClampNeg a dp.toNatClampNeg n.toNatClampNeg).2.2.1 i = h.2.2.1 i := by simp [hCJ, hi]
        unfold cnE cnF
        rw [e2]
        rfl) (by simp) (fun q hq => by simp [Array.getElem?_setIfInBounds, Ne.symm hq]) (by
        rw [cnE_j (show kd (hCJ h a0 sp.toNatClampNeg a dp.toNatClampNeg n.toNatClampNeg) a = 21 from k1)]
        show (H.setIfInBounds (B + a) _)[B + a]? = some (vp_cell (cA 21) (ln h a, .inr (.inl ((hCJ h a0 sp.toNatClampNeg a dp.toNatClampNeg n.toNatClampNeg).2.2.1 a))))
        simp [Array.getElem?_setIfInBounds, hl, hCJ])) (locs' := locs ++ ((vp_cell (cA 21) (ln h a0, .inr (.inl (h.2.2.1 a0)))).stretch sp.toNatClampNeg n.toNatClampNeg).zipIdx.map fun q => ⟨B + a, dp.toNatClampNeg + q.2⟩) (fun q hq => by
        rcases List.mem_append.mp hq with h | h
        · exact w.2 q h
        · obtain ⟨z, -, hz⟩ := List.mem_map.mp h
          rw [← hz]
          exact Nat.le_add_right _ _)) hlv _ (by rw [← hT]; rfl) X'
    exact ⟨t, step t a1, b1⟩
  · cases hg
/-- an element that is not null -/
def lQ (h : aH) (t a : Nat) (i : Int32) : Option Nat := if inbD h t a i then h.2.2.2 a i.toNatClampNeg else none
theorem r_ldN24 {a x : Nat} {i : Int32} (C : cX p s m args meth c D cA B Hb own cc nL ret) (d : decode cc pc = .ok (.aaload, 1)) (hg : lQ h 24 a i = some x) (kk : gW p l e R s m args below meth c Q D cA B Hb nL h (pc + 1) lv (.ref x :: st) cells slots) : gW p l e R s m args below meth c Q D cA B Hb nL h pc lv (.int i :: .ref a :: st) cells slots := by
  obtain ⟨hx, hb, -, hown, hts, ⟨hK, -⟩, -, -⟩ := C
  unfold lQ at hg
  split at hg
  · rename_i q
    have hi := inb_iff.mp q
    intro H locs ls w hlv
    have hP := wW_at w (a := a) (by rw [hi.1]; decide)
    rw [cnE_r hi.1 (by decide)] at hP
    refine va_aldq hx hb hK hP 0 4 rfl rfl (vp_of hi) d ?_
    have e2 := kk H locs ls w hlv
    rw [show va_rf ((h.2.2.2 a i.toNatClampNeg).map (B + ·)) = cv cA B (.ref x) by rw [hg]; rfl]
    exact e2
  · cases hg
theorem r_ldN25 {a x : Nat} {i : Int32} (C : cX p s m args meth c D cA B Hb own cc nL ret) (d : decode cc pc = .ok (.aaload, 1)) (hg : lQ h 25 a i = some x) (kk : gW p l e R s m args below meth c Q D cA B Hb nL h (pc + 1) lv (.ref x :: st) cells slots) : gW p l e R s m args below meth c Q D cA B Hb nL h pc lv (.int i :: .ref a :: st) cells slots := by
  obtain ⟨hx, hb, -, hown, hts, ⟨hK, -⟩, -, -⟩ := C
  unfold lQ at hg
  split at hg
  · rename_i q
    have hi := inb_iff.mp q
    intro H locs ls w hlv
    have hP := wW_at w (a := a) (by rw [hi.1]; decide)
    rw [cnE_r hi.1 (by decide)] at hP
    refine va_aldq hx hb hK hP 0 5 rfl rfl (vp_of hi) d ?_
    have e2 := kk H locs ls w hlv
    rw [show va_rf ((h.2.2.2 a i.toNatClampNeg).map (B + ·)) = cv cA B (.ref x) by rw [hg]; rfl]
    exact e2
  · cases hg
end RP
theorem lne {x k : Int32} (h : ¬ x = k) {j : Int} (hj : k.toInt = j) : ¬ j = x.toInt := fun q => h (Int32.toInt_inj.mp (by rw [hj]; exact q.symm))
def mxI (x y : Int32) : Int32 := if x < y then y else x
def mnI (x y : Int32) : Int32 := if y < x then y else x
theorem tb_mi : Cond.initialized "java/lang/Math" ∈ tB := in_tB 166 (by decide +kernel) (by decide +kernel)
theorem tb_mxs : Cond.static Lib.Math.max.name ∈ tB := in_tB 1276 (by decide +kernel) (by decide +kernel)
theorem tb_mxc : Cond.code Lib.Math.max.name Lib.Math.max.code 2 (some .int) ∈ tB := in_tB 1277 (by decide +kernel) (by decide +kernel)
theorem tb_mns : Cond.static Lib.Math.min.name ∈ tB := in_tB 961 (by decide +kernel) (by decide +kernel)
theorem tb_mnc : Cond.code Lib.Math.min.name Lib.Math.min.code 2 (some .int) ∈ tB := in_tB 962 (by decide +kernel) (by decide +kernel)
theorem r_mmax {p : Program} {l : Launch} {e : Env} {R : Room} {s : State} {m : MethodId} {args : Array Value} {below : List Frame} {meth : Method} {c : Code} {Q : State → Prop} {D : va_G} {cA : Nat → ClassId} {B : Nat} {Hb : Heap} {nL : Nat} {h : aH} {pc : Nat} {lv : List (Nat × Value)} {st : List Value} {cells slots : Nat} {own : String} {cc : ByteArray} {ret : Option FieldType} {idx : Nat} {x y : Int32} (C : cX p s m args meth c D cA B Hb own cc nL ret) (hlk : Cond.methodLink own idx Lib.Math.max.name ∈ tB) (d : decode cc pc = .ok (.invokestatic idx, 3)) (hR : 1 ≤ R.frames ∧ 60 ≤ R.locals) (hW : (st.map fun v => v.category).sum ≤ 8) (hf : cells ≤ R.cells ∧ slots ≤ R.slots)
    (kk : gW p l e R s m args below meth c Q D cA B Hb nL h (pc + 3) lv (.int (mxI x y) :: st) cells slots) : gW p l e R s m args below meth c Q D cA B Hb nL h pc lv (.int y :: .int x :: st) cells slots := by
  obtain ⟨hx, hb, hml, hown, hts, hK, -, -⟩ := C
  intro H locs ls w hlv
  refine va_mmax hx hb (hml.trans hlv.1.symm) hown (hts _ hlk) (hts _ tb_mxs) (hts _ tb_mi) (hts _ tb_mxc) hR.1 ?_ hf.1 hf.2 d (kk H locs ls w hlv)
  rw [List.map_map, show ((fun v : Value => v.category) ∘ cv cA B) = (fun v => v.category) from funext (cv_cat cA B)]
  omega
theorem r_mmin {p : Program} {l : Launch} {e : Env} {R : Room} {s : State} {m : MethodId} {args : Array Value} {below : List Frame} {meth : Method} {c : Code} {Q : State → Prop} {D : va_G} {cA : Nat → ClassId} {B : Nat} {Hb : Heap} {nL : Nat} {h : aH} {pc : Nat} {lv : List (Nat × Value)} {st : List Value} {cells slots : Nat} {own : String} {cc : ByteArray} {ret : Option FieldType} {idx : Nat} {x y : Int32} (C : cX p s m args meth c D cA B Hb own cc nL ret) (hlk : Cond.methodLink own idx Lib.Math.min.name ∈ tB) (d : decode cc pc = .ok (.invokestatic idx, 3)) (hR : 1 ≤ R.frames ∧ 60 ≤ R.locals) (hW : (st.map fun v => v.category).sum ≤ 8) (hf : cells ≤ R.cells ∧ slots ≤ R.slots)
    (kk : gW p l e R s m args below meth c Q D cA B Hb nL h (pc + 3) lv (.int (mnI x y) :: st) cells slots) : gW p l e R s m args below meth c Q D cA B Hb nL h pc lv (.int y :: .int x :: st) cells slots := by
  obtain ⟨hx, hb, hml, hown, hts, hK, -, -⟩ := C
  intro H locs ls w hlv
  refine va_mmin hx hb (hml.trans hlv.1.symm) hown (hts _ hlk) (hts _ tb_mns) (hts _ tb_mi) (hts _ tb_mnc) hR.1 ?_ hf.1 hf.2 d (kk H locs ls w hlv)
  rw [List.map_map, show ((fun v : Value => v.category) ∘ cv cA B) = (fun v => v.category) from funext (cv_cat cA B)]
  omega
