/-! ===== cells that are made, references that may be null ===== -/
def nwO (h : aH) (c n : Nat) : Option (Nat × aH) := some (h.1.length, hN h c n)
theorem tb_aint : Cond.arrayClass .int ∈ tB := in_tB 285 (by decide +kernel) (by decide +kernel)
theorem tb_along : Cond.arrayClass .long ∈ tB := in_tB 286 (by decide +kernel) (by decide +kernel)
theorem tb_abyte : Cond.arrayClass .byte ∈ tB := in_tB 287 (by decide +kernel) (by decide +kernel)
theorem tb_aboolean : Cond.arrayClass .boolean ∈ tB := in_tB 1646 (by decide +kernel) (by decide +kernel)
section RN
variable {p : Program} {l : Launch} {e : Env} {R : Room} {s : State} {m : MethodId} {args : Array Value} {below : List Frame} {meth : Method} {c : Code} {Q : State → Prop} {D : va_G} {cA : Nat → ClassId} {B : Nat} {Hb : Heap} {nL : Nat} {h : aH} {pc : Nat} {lv : List (Nat × Value)} {st : List Value} {cells slots : Nat} {own : String} {cc : ByteArray} {ret : Option FieldType}
theorem r_newE {idx ci N a : Nat} {h' : aH} (C : cX p s m args meth c D cA B Hb own cc nL ret) (F : nK own idx ci N) (d : decode cc pc = .ok (.new idx, 3)) (hf : cells + 1 ≤ R.cells ∧ slots + N ≤ R.slots) (hg : nwO h ci N = some (a, h')) (kk : gW p l e R s m args below meth c Q D cA B Hb nL h' (pc + 3) lv (.ref a :: st) (cells + 1) (slots + N)) : gW p l e R s m args below meth c Q D cA B Hb nL h pc lv st cells slots := by
  cases hg
  exact r_new C F d hf kk
theorem r_newIE {n : Int32} {N a : Nat} {h' : aH} (C : cX p s m args meth c D cA B Hb own cc nL ret) (d : decode cc pc = .ok (.newarray .int, 2)) (hn : ¬ n < 0) (hN' : n.toNatClampNeg = N) (hby : N * 4 ≤ 536870912) (hf : cells + 1 ≤ R.cells ∧ slots + N ≤ R.slots) (hg : nwO h 20 N = some (a, h')) (kk : gW p l e R s m args below meth c Q D cA B Hb nL h' (pc + 2) lv (.ref a :: st) (cells + 1) (slots + N)) : gW p l e R s m args below meth c Q D cA B Hb nL h pc lv (.int n :: st) cells slots := by
  cases hg
  exact r_newI C tb_aint d hn hN' hby hf kk
theorem r_newJE {n : Int32} {N a : Nat} {h' : aH} (C : cX p s m args meth c D cA B Hb own cc nL ret) (d : decode cc pc = .ok (.newarray .long, 2)) (hn : ¬ n < 0) (hN' : n.toNatClampNeg = N) (hby : N * 8 ≤ 536870912) (hf : cells + 1 ≤ R.cells ∧ slots + N ≤ R.slots) (hg : nwO h 21 N = some (a, h')) (kk : gW p l e R s m args below meth c Q D cA B Hb nL h' (pc + 2) lv (.ref a :: st) (cells + 1) (slots + N)) : gW p l e R s m args below meth c Q D cA B Hb nL h pc lv (.int n :: st) cells slots := by
  cases hg
  exact r_newJ C tb_along d hn hN' hby hf kk
theorem r_newBE {n : Int32} {N a : Nat} {h' : aH} (C : cX p s m args meth c D cA B Hb own cc nL ret) (d : decode cc pc = .ok (.newarray .byte, 2)) (hn : ¬ n < 0) (hN' : n.toNatClampNeg = N) (hby : N * 1 ≤ 536870912) (hf : cells + 1 ≤ R.cells ∧ slots + N ≤ R.slots) (hg : nwO h 22 N = some (a, h')) (kk : gW p l e R s m args below meth c Q D cA B Hb nL h' (pc + 2) lv (.ref a :: st) (cells + 1) (slots + N)) : gW p l e R s m args below meth c Q D cA B Hb nL h pc lv (.int n :: st) cells slots := by
  cases hg
  exact r_newB C tb_abyte d hn hN' hby hf kk
theorem r_newZE {n : Int32} {N a : Nat} {h' : aH} (C : cX p s m args meth c D cA B Hb own cc nL ret) (d : decode cc pc = .ok (.newarray .boolean, 2)) (hn : ¬ n < 0) (hN' : n.toNatClampNeg = N) (hby : N * 1 ≤ 536870912) (hf : cells + 1 ≤ R.cells ∧ slots + N ≤ R.slots) (hg : nwO h 23 N = some (a, h')) (kk : gW p l e R s m args below meth c Q D cA B Hb nL h' (pc + 2) lv (.ref a :: st) (cells + 1) (slots + N)) : gW p l e R s m args below meth c Q D cA B Hb nL h pc lv (.int n :: st) cells slots := by
  cases hg
  exact r_newZ C tb_aboolean d hn hN' hby hf kk
theorem r_newQ24E {n : Int32} {N a idx : Nat} {h' : aH} (C : cX p s m args meth c D cA B Hb own cc nL ret) (hcl : Cond.classLink own idx RX1 ∈ tB) (d : decode cc pc = .ok (.anewarray idx, 3)) (hn : ¬ n < 0) (hN' : n.toNatClampNeg = N) (hby : N * 4 ≤ 536870912) (hf : cells + 1 ≤ R.cells ∧ slots + N ≤ R.slots) (hg : nwO h 24 N = some (a, h')) (kk : gW p l e R s m args below meth c Q D cA B Hb nL h' (pc + 3) lv (.ref a :: st) (cells + 1) (slots + N)) : gW p l e R s m args below meth c Q D cA B Hb nL h pc lv (.int n :: st) cells slots := by
  obtain ⟨hx, hb, -, hown, hts, hK, -, -⟩ := C
  cases hg
  subst hN'
  intro H locs ls w hlv
  refine W.anew hx hb hown (hts _ hcl) (va_AO.use hK.2.2.1) rfl d rfl hn hby hf.1 hf.2 fun cA' kA comp f1 f2 f3 f4 => ?_
  generalize hH1 : H.push ({ cls := cA', slots := Array.replicate n.toNatClampNeg .null, vm := .none } : Cell) = H1
  have z1 : H1.size = H.size + 1 := by rw [← hH1, Array.size_push]
  have e1 : H1[H.size]? = some (arrV cA' n.toNatClampNeg (fun _ => .null)) := by rw [← hH1, Array.getElem?_push_size, ← arrV_new]
  have o1 : ∀ q : Nat, q < H.size → H1[q]? = H[q]? := fun q hq => by rw [← hH1, Array.getElem?_push, if_neg (Nat.ne_of_lt hq)]
  obtain ⟨kA2, comp2, g1, g2, g3, g4⟩ := (hK.1.2 4 _ rfl).2
  have hcA : cA' = cA 24 := Option.some.inj (f1.symm.trans g4)
  subst hcA
  have e2 := kk H1 locs ls (wW_new w z1 o1 ?_) hlv
  · rw [List.map_cons, show cv cA B (.ref h.1.length) = .ref H.size by rw [w.1.1]; rfl] at e2
    exact e2
  · rw [cnE_r kd_hN (by decide), ln_hN]
    show H1[H.size]? = some (vp_cell (cA 24) (n.toNatClampNeg, .inr (.inr (.inr (.inr (fun j => (zr h.2.2.2 h.1.length none h.1.length j).map (B + ·)))))))
    rw [e1, vp_cell_q]
    simp [zr, va_rf]
theorem r_stQ24 {a x : Nat} {i : Int32} {h' : aH} (C : cX p s m args meth c D cA B Hb own cc nL ret) (d : decode cc pc = .ok (.aastore, 1)) (hg : sR h 24 a i 1 x = some h') (kk : gW p l e R s m args below meth c Q D cA B Hb nL h' (pc + 1) lv st cells slots) : gW p l e R s m args below meth c Q D cA B Hb nL h pc lv (.ref x :: .int i :: .ref a :: st) cells slots := by
  obtain ⟨hx, hb, -, hown, hts, ⟨hK, -⟩, -, -⟩ := C
  unfold sR at hg
  split at hg
  · rename_i q
    rw [Bool.and_eq_true, beq_iff_eq] at q
    have hi := inb_iff.mp q.1
    have hkx := q.2
    cases hg
    intro H locs ls w hlv
    have hP := wW_at w (a := a) (by rw [hi.1]; decide) 0 _ rfl
    rw [cnE_r hi.1 (by decide)] at hP
    have hPx := wW_at w (a := x) (by rw [hkx]; decide)
    rw [cnE_obj hkx (by decide)] at hPx
    obtain ⟨r', hr', cellV, g1, g2, g3, -⟩ := hPx 0 _ rfl
    have hcls := (hK.1 1 _ rfl).2
    obtain ⟨kA, comp, k1, k2, k3, -⟩ := (hK.2 4 _ rfl).2
    have hcomp : comp = D.1 1 := Option.some.inj (k3.symm.trans hcls.1)
    subst hcomp
    obtain ⟨kC, hkC, -⟩ := hcls.2
    refine W.aast hx hb hP (fun q h => by cases h) (fun h => by cases h) k1 k2 rfl hkC ⟨hi.2.1, by show _ < (arrV _ _ _).slots.size; rw [arrV_size]; exact hi.2.2⟩ g1 (fun q h => by rw [g3] at h; cases h) (by rw [g2]; exact hkC) (by rw [g2]; exact va_assign hcls) rfl rfl d fun H1 e1 e2 e3 => ?_
    refine kk H1 _ ls (wW_set w a _ rfl (fun j hj => cnE_hR hj) e2 e3 ?_) hlv
    rw [cnE_r (show kd (hR h a i.toNatClampNeg (some x)) a = 24 from hi.1) (by decide)]
    show H1[B + a]? = some (vp_cell (cA 24) (ln h a, .inr (.inr (.inr (.inr (fun j => (up2 h.2.2.2 a i.toNatClampNeg (some x) a j).map (B + ·)))))))
    rw [e1]
    show some ((vp_cell (cA 24) (ln h a, .inr (.inr (.inr (.inr (fun j => (h.2.2.2 a j).map (B + ·))))))).setSlot _ _) = _
    rw [vp_cell_q, vp_cell_q, arrV_store, up2_self, fv_r]
    rfl
  · cases hg
theorem r_newQ25E {n : Int32} {N a idx : Nat} {h' : aH} (C : cX p s m args meth c D cA B Hb own cc nL ret) (hcl : Cond.classLink own idx RX5 ∈ tB) (d : decode cc pc = .ok (.anewarray idx, 3)) (hn : ¬ n < 0) (hN' : n.toNatClampNeg = N) (hby : N * 4 ≤ 536870912) (hf : cells + 1 ≤ R.cells ∧ slots + N ≤ R.slots) (hg : nwO h 25 N = some (a, h')) (kk : gW p l e R s m args below meth c Q D cA B Hb nL h' (pc + 3) lv (.ref a :: st) (cells + 1) (slots + N)) : gW p l e R s m args below meth c Q D cA B Hb nL h pc lv (.int n :: st) cells slots := by
  obtain ⟨hx, hb, -, hown, hts, hK, -, -⟩ := C
  cases hg
  subst hN'
  intro H locs ls w hlv
  refine W.anew hx hb hown (hts _ hcl) (va_AO.use hK.2.2.2.1) rfl d rfl hn hby hf.1 hf.2 fun cA' kA comp f1 f2 f3 f4 => ?_
  generalize hH1 : H.push ({ cls := cA', slots := Array.replicate n.toNatClampNeg .null, vm := .none } : Cell) = H1
  have z1 : H1.size = H.size + 1 := by rw [← hH1, Array.size_push]
  have e1 : H1[H.size]? = some (arrV cA' n.toNatClampNeg (fun _ => .null)) := by rw [← hH1, Array.getElem?_push_size, ← arrV_new]
  have o1 : ∀ q : Nat, q < H.size → H1[q]? = H[q]? := fun q hq => by rw [← hH1, Array.getElem?_push, if_neg (Nat.ne_of_lt hq)]
  obtain ⟨kA2, comp2, g1, g2, g3, g4⟩ := (hK.1.2 5 _ rfl).2
  have hcA : cA' = cA 25 := Option.some.inj (f1.symm.trans g4)
  subst hcA
  have e2 := kk H1 locs ls (wW_new w z1 o1 ?_) hlv
  · rw [List.map_cons, show cv cA B (.ref h.1.length) = .ref H.size by rw [w.1.1]; rfl] at e2
    exact e2
  · rw [cnE_r kd_hN (by decide), ln_hN]
    show H1[H.size]? = some (vp_cell (cA 25) (n.toNatClampNeg, .inr (.inr (.inr (.inr (fun j => (zr h.2.2.2 h.1.length none h.1.length j).map (B + ·)))))))
    rw [e1, vp_cell_q]
    simp [zr, va_rf]
theorem r_stQ25 {a x : Nat} {i : Int32} {h' : aH} (C : cX p s m args meth c D cA B Hb own cc nL ret) (d : decode cc pc = .ok (.aastore, 1)) (hg : sR h 25 a i 5 x = some h') (kk : gW p l e R s m args below meth c Q D cA B Hb nL h' (pc + 1) lv st cells slots) : gW p l e R s m args below meth c Q D cA B Hb nL h pc lv (.ref x :: .int i :: .ref a :: st) cells slots := by
  obtain ⟨hx, hb, -, hown, hts, ⟨hK, -⟩, -, -⟩ := C
  unfold sR at hg
  split at hg
  · rename_i q
    rw [Bool.and_eq_true, beq_iff_eq] at q
    have hi := inb_iff.mp q.1
    have hkx := q.2
    cases hg
    intro H locs ls w hlv
    have hP := wW_at w (a := a) (by rw [hi.1]; decide) 0 _ rfl
    rw [cnE_r hi.1 (by decide)] at hP
    have hPx := wW_at w (a := x) (by rw [hkx]; decide)
    rw [cnE_obj hkx (by decide)] at hPx
    obtain ⟨r', hr', cellV, g1, g2, g3, -⟩ := hPx 0 _ rfl
    have hcls := (hK.1 5 _ rfl).2
    obtain ⟨kA, comp, k1, k2, k3, -⟩ := (hK.2 5 _ rfl).2
    have hcomp : comp = D.1 5 := Option.some.inj (k3.symm.trans hcls.1)
    subst hcomp
    obtain ⟨kC, hkC, -⟩ := hcls.2
    refine W.aast hx hb hP (fun q h => by cases h) (fun h => by cases h) k1 k2 rfl hkC ⟨hi.2.1, by show _ < (arrV _ _ _).slots.size; rw [arrV_size]; exact hi.2.2⟩ g1 (fun q h => by rw [g3] at h; cases h) (by rw [g2]; exact hkC) (by rw [g2]; exact va_assign hcls) rfl rfl d fun H1 e1 e2 e3 => ?_
    refine kk H1 _ ls (wW_set w a _ rfl (fun j hj => cnE_hR hj) e2 e3 ?_) hlv
    rw [cnE_r (show kd (hR h a i.toNatClampNeg (some x)) a = 25 from hi.1) (by decide)]
    show H1[B + a]? = some (vp_cell (cA 25) (ln h a, .inr (.inr (.inr (.inr (fun j => (up2 h.2.2.2 a i.toNatClampNeg (some x) a j).map (B + ·)))))))
    rw [e1]
    show some ((vp_cell (cA 25) (ln h a, .inr (.inr (.inr (.inr (fun j => (h.2.2.2 a j).map (B + ·))))))).setSlot _ _) = _
    rw [vp_cell_q, vp_cell_q, arrV_store, up2_self, fv_r]
    rfl
  · cases hg
theorem r_ldQ0 {a : Nat} {i : Int32} (C : cX p s m args meth c D cA B Hb own cc nL ret) (d : decode cc pc = .ok (.aaload, 1)) (hg : lR h 24 a i = some none) (kk : gW p l e R s m args below meth c Q D cA B Hb nL h (pc + 1) lv (.null :: st) cells slots) : gW p l e R s m args below meth c Q D cA B Hb nL h pc lv (.int i :: .ref a :: st) cells slots := by
  obtain ⟨hx, hb, -, hown, hts, ⟨hK, -⟩, -, -⟩ := C
  unfold lR at hg
  split at hg
  · rename_i q
    have hi := inb_iff.mp q
    have hg := Option.some.inj hg
    intro H locs ls w hlv
    have hP := wW_at w (a := a) (by rw [hi.1]; decide)
    rw [cnE_r hi.1 (by decide)] at hP
    refine va_aldq hx hb hK hP 0 4 rfl rfl (vp_of hi) d ?_
    have e2 := kk H locs ls w hlv
    rw [show va_rf ((h.2.2.2 a i.toNatClampNeg).map (B + ·)) = cv cA B .null by rw [hg]; rfl]
    exact e2
  · cases hg
theorem r_ldQ1 {a x : Nat} {i : Int32} (C : cX p s m args meth c D cA B Hb own cc nL ret) (d : decode cc pc = .ok (.aaload, 1)) (hg : lR h 24 a i = some (some x)) (kk : gW p l e R s m args below meth c Q D cA B Hb nL h (pc + 1) lv (.ref x :: st) cells slots) : gW p l e R s m args below meth c Q D cA B Hb nL h pc lv (.int i :: .ref a :: st) cells slots := by
  obtain ⟨hx, hb, -, hown, hts, ⟨hK, -⟩, -, -⟩ := C
  unfold lR at hg
  split at hg
  · rename_i q
    have hi := inb_iff.mp q
    have hg := Option.some.inj hg
    intro H locs ls w hlv
    have hP := wW_at w (a := a) (by rw [hi.1]; decide)
    rw [cnE_r hi.1 (by decide)] at hP
    refine va_aldq hx hb hK hP 0 4 rfl rfl (vp_of hi) d ?_
    have e2 := kk H locs ls w hlv
    rw [show va_rf ((h.2.2.2 a i.toNatClampNeg).map (B + ·)) = cv cA B (.ref x) by rw [hg]; rfl]
    exact e2
  · cases hg
theorem r_nload_n {n : Fin 4} (C : cX p s m args meth c D cA B Hb own cc nL ret) (d : decode cc pc = .ok (.aload_n n, 1)) (hk : lvG lv n.val = some .null) (k : gW p l e R s m args below meth c Q D cA B Hb nL h (pc + 1) lv (.null :: st) cells slots) : gW p l e R s m args below meth c Q D cA B Hb nL h pc lv st cells slots := fun H locs ls w hl => lv_aload_nN C.1 C.2.1 d rfl (lvG_at hl hk) (k H locs ls w hl)
theorem r_nstore_n {n : Fin 4} {lv' : List (Nat × Value)} (C : cX p s m args meth c D cA B Hb own cc nL ret) (d : decode cc pc = .ok (.astore_n n, 1)) (hn : n.val < nL) (hs : lvS lv n.val .null = lv') (k : gW p l e R s m args below meth c Q D cA B Hb nL h (pc + 1) lv' st cells slots) : gW p l e R s m args below meth c Q D cA B Hb nL h pc lv (.null :: st) cells slots := fun H locs ls w hl => lv_astore_nN C.1 C.2.1 d rfl hl hn (lvm_S cA B lv _ .null) (fun ls hl => k H locs ls w (hs ▸ hl))
theorem r_ifnnN {off : Int} (C : cX p s m args meth c D cA B Hb own cc nL ret) (d : decode cc pc = .ok (.ifnonnull off, 3)) (k : gW p l e R s m args below meth c Q D cA B Hb nL h (pc + 3) lv st cells slots) : gW p l e R s m args below meth c Q D cA B Hb nL h pc lv (.null :: st) cells slots := fun H locs ls w hl => lv_ifnonnullN C.1 C.2.1 d (k H locs ls w hl)
theorem r_ifnn {off : Int} {tgt x : Nat} (C : cX p s m args meth c D cA B Hb own cc nL ret) (d : decode cc pc = .ok (.ifnonnull off, 3)) (ht : (pc : Int) + off = (tgt : Int)) (k : gW p l e R s m args below meth c Q D cA B Hb nL h tgt lv st cells slots) : gW p l e R s m args below meth c Q D cA B Hb nL h pc lv (.ref x :: st) cells slots := fun H locs ls w hl => lv_ifnonnull C.1 C.2.1 d ht (k H locs ls w hl)
theorem r_acmp_eq {off : Int} {tgt x y : Nat} (C : cX p s m args meth c D cA B Hb own cc nL ret) (d : decode cc pc = .ok (.if_acmp .eq off, 3)) (ht : (pc : Int) + off = (tgt : Int)) (kt : (x = y) → gW p l e R s m args below meth c Q D cA B Hb nL h tgt lv st cells slots) (kf : ¬ (x = y) → gW p l e R s m args below meth c Q D cA B Hb nL h (pc + 3) lv st cells slots) : gW p l e R s m args below meth c Q D cA B Hb nL h pc lv (.ref y :: .ref x :: st) cells slots := fun H locs ls w hl => lv_acmp_eq (rx := some (B + x)) (ry := some (B + y)) C.1 C.2.1 d ht (fun q => kt (by injection q; omega) H locs ls w hl) (fun q => kf (fun z => q (by rw [z])) H locs ls w hl)
theorem r_acmp_ne {off : Int} {tgt x y : Nat} (C : cX p s m args meth c D cA B Hb own cc nL ret) (d : decode cc pc = .ok (.if_acmp .ne off, 3)) (ht : (pc : Int) + off = (tgt : Int)) (kt : ¬ (x = y) → gW p l e R s m args below meth c Q D cA B Hb nL h tgt lv st cells slots) (kf : (x = y) → gW p l e R s m args below meth c Q D cA B Hb nL h (pc + 3) lv st cells slots) : gW p l e R s m args below meth c Q D cA B Hb nL h pc lv (.ref y :: .ref x :: st) cells slots := fun H locs ls w hl => lv_acmp_ne (rx := some (B + x)) (ry := some (B + y)) C.1 C.2.1 d ht (fun q => kt (fun z => q (by rw [z])) H locs ls w hl) (fun q => kf (by injection q; omega) H locs ls w hl)
theorem r_aV {d ci a : Nat} {y : MethodName} {cy : ByteArray} {maxL idx n mc ms : Nat} {ry : Option FieldType} {As rest st2 : List Value} {r : Option Value} {h' : aH} {CC : String} {T : u_T} {N : Nat} (C : cX p s m args meth c D cA B Hb own cc nL ret) (hE : EV d y cy maxL ry h (.ref a :: As) r h' mc ms) (M : mK y cy maxL ry n) (hci : vwCl[ci]? = some (CC, T, N)) (ha : kd h a = ci) (hlt : ci < 20) (hins : Cond.instanceMethod y ∈ tB) (hsel : Cond.selects CC y y ∈ tB) (hlk : Cond.methodLink own idx y ∈ tB) (hst : As.reverse ++ .ref a :: rest = st) (hn : As.length = n) (h2 : r.toList ++ rest = st2) (dd : decode cc pc = .ok (.invokevirtual idx, 3))
    (hW : (rest.map fun v => v.category).sum ≤ 8) (hR : d + 1 ≤ R.frames ∧ 8 + (maxL + 11) + 60 * d ≤ R.locals) (hf : cells + mc ≤ R.cells ∧ slots + ms ≤ R.slots)
    (k : gW p l e R s m args below meth c Q D cA B Hb nL h' (pc + 3) lv st2 (cells + mc) (slots + ms)) : gW p l e R s m args below meth c Q D cA B Hb nL h pc lv st cells slots := by
  subst h2
  exact r_callV C hE M hci ha hlt hins hsel hlk hst hn dd hW hR hf k
end RN
def tyB (t : FieldType) : Bool := match t with
  | .int => true
  | .boolean => true
  | .long => true
  | .object _ => true
  | .array _ => true
  | _ => false
theorem tyB_ok {t : FieldType} (h : tyB t = true) : t = .int ∨ t = .boolean ∨ t = .long ∨ (∃ c, t = .object c) ∨ ∃ u, t = .array u := by
  cases t <;> simp_all [tyB]
theorem tys_ok (tt : Nat → FieldType) (N : Nat) (h : (List.range N).all (fun j => tyB (tt j)) = true) : ∀ j, j < N → (tt j = .int ∨ tt j = .boolean ∨ tt j = .long ∨ (∃ c, tt j = .object c) ∨ ∃ t, tt j = .array t) := fun j hj => tyB_ok (List.all_eq_true.mp h j (List.mem_range.mpr hj))
theorem nk_X1_9 : nK RX1 9 7 4 := ⟨RX7, TX7, tyX7, rfl, by decide, itX7, in_tB 335 (by decide +kernel) (by decide +kernel), in_tB 336 (by decide +kernel) (by decide +kernel), in_tB 155 (by decide +kernel) (by decide +kernel), rfl, tyX7_ok, tys_ok tyX7 4 (by decide +kernel)⟩
theorem nk_X10_22 : nK RX10 22 3 7 := ⟨RX3, TX3, tyX3, rfl, by decide, itX3, in_tB 671 (by decide +kernel) (by decide +kernel), in_tB 527 (by decide +kernel) (by decide +kernel), in_tB 159 (by decide +kernel) (by decide +kernel), rfl, tyX3_ok, tys_ok tyX3 7 (by decide +kernel)⟩
theorem nk_X11_20 : nK RX11 20 4 14 := ⟨RX4, TX4, tyX4, rfl, by decide, itX4, in_tB 176 (by decide +kernel) (by decide +kernel), in_tB 177 (by decide +kernel) (by decide +kernel), in_tB 148 (by decide +kernel) (by decide +kernel), rfl, tyX4_ok, tys_ok tyX4 14 (by decide +kernel)⟩
theorem nk_X11_27 : nK RX11 27 1 19 := ⟨RX1, TX1, tyX1, rfl, by decide, itX1, in_tB 288 (by decide +kernel) (by decide +kernel), in_tB 330 (by decide +kernel) (by decide +kernel), in_tB 154 (by decide +kernel) (by decide +kernel), rfl, tyX1_ok, tys_ok tyX1 19 (by decide +kernel)⟩
theorem nk_X11_33 : nK RX11 33 5 3 := ⟨RX5, TX5, tyX5, rfl, by decide, itX5, in_tB 290 (by decide +kernel) (by decide +kernel), in_tB 688 (by decide +kernel) (by decide +kernel), in_tB 163 (by decide +kernel) (by decide +kernel), rfl, tyX5_ok, tys_ok tyX5 3 (by decide +kernel)⟩
theorem nk_X11_42 : nK RX11 42 8 8 := ⟨RX8, TX8, tyX8, rfl, by decide, itX8, in_tB 292 (by decide +kernel) (by decide +kernel), in_tB 293 (by decide +kernel) (by decide +kernel), in_tB 153 (by decide +kernel) (by decide +kernel), rfl, tyX8_ok, tys_ok tyX8 8 (by decide +kernel)⟩
theorem nk_X11_78 : nK RX11 78 2 8 := ⟨RX2, TX2, tyX2, rfl, by decide, itX2, in_tB 473 (by decide +kernel) (by decide +kernel), in_tB 474 (by decide +kernel) (by decide +kernel), in_tB 157 (by decide +kernel) (by decide +kernel), rfl, tyX2_ok, tys_ok tyX2 8 (by decide +kernel)⟩
theorem nk_X11_87 : nK RX11 87 3 7 := ⟨RX3, TX3, tyX3, rfl, by decide, itX3, in_tB 526 (by decide +kernel) (by decide +kernel), in_tB 527 (by decide +kernel) (by decide +kernel), in_tB 159 (by decide +kernel) (by decide +kernel), rfl, tyX3_ok, tys_ok tyX3 7 (by decide +kernel)⟩
theorem nk_X11_96 : nK RX11 96 9 9 := ⟨RX9, TX9, tyX9, rfl, by decide, itX9, in_tB 631 (by decide +kernel) (by decide +kernel), in_tB 632 (by decide +kernel) (by decide +kernel), in_tB 161 (by decide +kernel) (by decide +kernel), rfl, tyX9_ok, tys_ok tyX9 9 (by decide +kernel)⟩
theorem nk_X11_105 : nK RX11 105 10 4 := ⟨RX10, TX10, tyX10, rfl, by decide, itX10, in_tB 665 (by decide +kernel) (by decide +kernel), in_tB 666 (by decide +kernel) (by decide +kernel), in_tB 162 (by decide +kernel) (by decide +kernel), rfl, tyX10_ok, tys_ok tyX10 4 (by decide +kernel)⟩
theorem nk_X2_9 : nK RX2 9 0 5 := ⟨RX0, TX0, tyX0, rfl, by decide, itX0, in_tB 479 (by decide +kernel) (by decide +kernel), in_tB 480 (by decide +kernel) (by decide +kernel), in_tB 158 (by decide +kernel) (by decide +kernel), rfl, tyX0_ok, tys_ok tyX0 5 (by decide +kernel)⟩
theorem nk_X3_9 : nK RX3 9 6 6 := ⟨RX6, TX6, tyX6, rfl, by decide, itX6, in_tB 532 (by decide +kernel) (by decide +kernel), in_tB 533 (by decide +kernel) (by decide +kernel), in_tB 160 (by decide +kernel) (by decide +kernel), rfl, tyX6_ok, tys_ok tyX6 6 (by decide +kernel)⟩
theorem nk_X5_7 : nK RX5 7 8 8 := ⟨RX8, TX8, tyX8, rfl, by decide, itX8, in_tB 693 (by decide +kernel) (by decide +kernel), in_tB 293 (by decide +kernel) (by decide +kernel), in_tB 153 (by decide +kernel) (by decide +kernel), rfl, tyX8_ok, tys_ok tyX8 8 (by decide +kernel)⟩
theorem nk_X5_16 : nK RX5 16 6 6 := ⟨RX6, TX6, tyX6, rfl, by decide, itX6, in_tB 695 (by decide +kernel) (by decide +kernel), in_tB 533 (by decide +kernel) (by decide +kernel), in_tB 160 (by decide +kernel) (by decide +kernel), rfl, tyX6_ok, tys_ok tyX6 6 (by decide +kernel)⟩
theorem ck_X11_27 : Cond.classLink RX11 27 RX1 ∈ tB := in_tB 288 (by decide +kernel) (by decide +kernel)
theorem ck_X11_33 : Cond.classLink RX11 33 RX5 ∈ tB := in_tB 290 (by decide +kernel) (by decide +kernel)
theorem ln_X11_44 : Cond.methodLinkNest RX11 44 yX8_init "AskingCourt" ∈ nestL := by decide +kernel
theorem ln_X1_11 : Cond.methodLinkNest RX1 11 yX7_init "AskingCourt" ∈ nestL := by decide +kernel
theorem ln_X2_11 : Cond.methodLinkNest RX2 11 yX0_init "AskingCourt" ∈ nestL := by decide +kernel
theorem ln_X3_11 : Cond.methodLinkNest RX3 11 yX6_init "AskingCourt" ∈ nestL := by decide +kernel
theorem ln_X5_9 : Cond.methodLinkNest RX5 9 yX8_init "AskingCourt" ∈ nestL := by decide +kernel
theorem ln_X5_18 : Cond.methodLinkNest RX5 18 yX6_init "AskingCourt" ∈ nestL := by decide +kernel
theorem ln_X11_341 : Cond.methodLinkNest RX11 341 yX9_firstOf "AskingCourt" ∈ nestL := by decide +kernel
theorem r_cVN {p : Program} {l : Launch} {e : Env} {R : Room} {s : State} {m : MethodId} {args : Array Value} {below : List Frame} {meth : Method} {c : Code} {Q : State → Prop} {D : va_G} {cA : Nat → ClassId} {B : Nat} {Hb : Heap} {nL : Nat} {h : aH} {pc : Nat} {lv : List (Nat × Value)} {st : List Value} {cells slots : Nat} {own host : String} {cc : ByteArray} {ret : Option FieldType} {d ci a : Nat} {y : MethodName} {cy : ByteArray} {maxL idx n : Nat} {ry : Option FieldType} {As rest st2 : List Value} {r : Option Value} {h' : aH} {CC : String} {T : u_T} {N : Nat} (C : cX p s m args meth c D cA B Hb own cc nL ret) (hE : EV d y cy maxL ry h (.ref a :: As) r h' 0 0) (M : mK y cy maxL ry n) (hci : vwCl[ci]? = some (CC, T, N)) (ha : kd h a = ci) (hlt : ci < 20) (hins : Cond.instanceMethod y ∈ tB) (hsel : Cond.selects CC y y ∈ tB) (hlk : Cond.methodLinkNest own idx y host ∈ nestL) (hst : As.reverse ++ .ref a :: rest = st) (hn : As.length = n) (h2 : r.toList ++ rest = st2) (dd : decode cc pc = .ok (.invokevirtual idx, 3))
    (hW : (rest.map fun v => v.category).sum ≤ 8) (hR : d + 1 ≤ R.frames ∧ 8 + (maxL + 11) + 60 * d ≤ R.locals) (hf : cells ≤ R.cells ∧ slots ≤ R.slots)
    (k : gW p l e R s m args below meth c Q D cA B Hb nL h' (pc + 3) lv st2 cells slots) : gW p l e R s m args below meth c Q D cA B Hb nL h pc lv st cells slots := by
  subst h2
  obtain ⟨hx, hb, hml, hown, hts, hK, -, -⟩ := C
  refine gW_run (mc := 0) (ms := 0) (a := (Value.ref (B + a) :: As.map (cv cA B)).toArray) (rest := rest) (fun H locs ls w hl => ?_) k
  have hP := wW_at w (a := a) (by omega)
  rw [cnE_obj ha hlt] at hP
  refine va_runVN (As := As.map (cv cA B)) (b := B + a) (C := CC) (n := n) (ret := ry) (bytes := cy) (maxL := maxL) ⟨hx, hb, hml, hown, hts⟩ (hE l D cA B Hb) ⟨va_cnB n hts (tB_good y cy maxL ry M.1) rfl rfl rfl (hK.2.1 _ hlk) (hts _ M.2.1) M.2.2 hR, hts _ hins, hts _ hsel⟩ ⟨eP_blind, va_recv (q0 := 0) hK.1 hP hci rfl, fun U hU hWm => ⟨rfl, by rw [hU]; exact w.1, zK.warm hWm hK⟩⟩ rfl (by rw [List.length_map]; exact hn) hl.1 (by rw [← hst]; simp [cv]) ?_ dd hf
  show 0 + _ ≤ 8
  rw [List.map_map, show ((fun v : Value => v.category) ∘ cv cA B) = (fun v => v.category) from funext (cv_cat cA B)]
  omega
