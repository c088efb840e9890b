/-! ===== contracts over the picture, calls and returns ===== -/
def rmO (d mc ms : Nat) : Room := { frames := d, cells := mc, slots := ms, locals := 60 * d }
def eP (D : va_G) (cA : Nat → ClassId) (B : Nat) (Hb : Heap) (h : aH) (av : List Value) : Array Value → State → Prop := fun a U => a = (av.map (cv cA B)).toArray ∧ wH D cA B Hb h U.heap ∧ zK D cA B Hb U
def eQ (D : va_G) (cA : Nat → ClassId) (B : Nat) (Hb : Heap) (h' : aH) (r : Option Value) : Array Value → State → Outcome → State → Prop := fun _ _ o t => o = .returned (r.map (cv cA B)) ∧ wH D cA B Hb h' t.heap ∧ zK D cA B Hb t
/-- method y, called with av where the heap is h, answers r and leaves h' -/
def EV (d : Nat) (y : MethodName) (cc : ByteArray) (maxL : Nat) (ret : Option FieldType) (h : aH) (av : List Value) (r : Option Value) (h' : aH) (mc ms : Nat) : Prop :=
  ∀ (l : Launch) (D : va_G) (cA : Nat → ClassId) (B : Nat) (Hb : Heap), Met l y (.code y cc maxL ret :: tB) (rmO d mc ms) (eP D cA B Hb h av) (eQ D cA B Hb h' r) mc ms (fun q => B ≤ q)
theorem lva_map (cA : Nat → ClassId) (B : Nat) : ∀ (vs : List Value) (k : Nat), lv_args k (vs.map (cv cA B)) = lvm cA B (lv_args k vs)
  | [], _ => rfl
  | v :: t, k => by
    simp only [List.map_cons, lv_args, cv_cat, lvm]
    exact congrArg _ (lva_map cA B t _)
theorem lgs_map (cA : Nat → ClassId) (B : Nat) : ∀ (vs : List Value), (lg_sl (vs.map (cv cA B))).length = (lg_sl vs).length
  | [] => rfl
  | v :: t => by
    have ih := lgs_map cA B t
    unfold lg_sl at ih ⊢
    rw [List.map_cons, List.flatMap_cons, List.flatMap_cons, List.length_append, List.length_append, ih, cv_cat]
    split <;> rfl
theorem EV.of {d : Nat} {y : MethodName} {cc : ByteArray} {maxL : Nat} {ret : Option FieldType} {h : aH} {av : List Value} {r : Option Value} {h' : aH} {mc ms : Nat} {own : String} {lv0 : List (Nat × Value)} (hy : plainName y.cls = true) (ho : y.cls = own) (h0 : lv_args 0 av = lv0) (hlen : (lg_sl av).length ≤ maxL)
    (body : ∀ (p : Program) (l : Launch) (e : Env) (s : State) (m : MethodId) (args : Array Value) (below : List Frame) (meth : Method) (c : Code) (D : va_G) (cA : Nat → ClassId) (B : Nat) (Hb : Heap), cX p s m args meth c D cA B Hb own cc maxL ret → meth.name = y.name →
      gW p l e (rmO d mc ms) s m args below meth c (MQ below (eQ D cA B Hb h' r) args s mc ms (fun q => B ≤ q)) D cA B Hb maxL h 0 lv0 [] 0 0) : EV d y cc maxL ret h av r h' mc ms := by
  intro l D cA B Hb
  refine Met.ofW (cc := cc) (maxL := maxL) (ret := ret) hy rfl ?_
  intro p e s m args below meth c s₁ BB hml hv
  obtain ⟨rfl, hH, hK⟩ := hv
  have hts := atoms_spec (ws := .code y cc maxL ret :: tB) BB.pre
  have hown : s.vm.findClass own = some m.cls := ho ▸ findClass_of_methodNamed BB.named
  have hl := lv_entry (av.map (cv cA B)) (n := maxL) (by rw [lgs_map]; exact hlen)
  rw [lva_map, h0] at hl
  rw [lg_entry_eq]
  exact body p l e s m _ below meth c D cA B Hb ⟨BB.exec, BB.bytes, hml, hown, fun w hw => hts w (List.mem_cons_of_mem _ hw), hK, BB.notSynchronized, BB.returns⟩ (name_of_methodNamed BB.named BB.method).1 s.heap [] _ ⟨hH, fun q hq => by cases hq⟩ hl
theorem tB_good (y : MethodName) (cc : ByteArray) (maxL : Nat) (ret : Option FieldType) (hc : Cond.code y cc maxL ret ∈ tB) : GoodIn tB (.code y cc maxL ret :: tB) := by
  intro w hw
  have hm : w ∈ tB := by
    rcases List.mem_cons.mp hw with rfl | h
    · exact hc
    · exact h
  exact ⟨hm, good_of_word (List.mem_filter.mp hm).2⟩
theorem eP_blind {D : va_G} {cA : Nat → ClassId} {B : Nat} {Hb : Heap} {h : aH} {av : List Value} : FrameBlind (eP D cA B Hb h av) := fun a U g mk q => ⟨q.1, q.2.1, zK.moved (u := U) (U := U.calling g mk a) rfl q.2.2⟩
section RC
variable {p : Program} {l : Launch} {e : Env} {R : Room} {s : State} {m : MethodId} {args : Array Value} {below : List Frame} {meth : Method} {c : Code} {Q : State → Prop} {D : va_G} {cA : Nat → ClassId} {B : Nat} {Hb : Heap} {nL : Nat} {h : aH} {pc : Nat} {lv : List (Nat × Value)} {st : List Value} {cells slots : Nat} {own : String} {cc : ByteArray} {ret : Option FieldType}
theorem gW_run {h' : aH} {r : Option Value} {rest : List Value} {a : Array Value} {mc ms : Nat} (hr : ∀ (H : Heap) (locs : List Loc) (ls : Array Slot), wW D cA B Hb h H locs → lv_has ls nL (lvm cA B lv) → va_Run p l e R s m args below meth c H locs cells slots mc ms (F0 m pc ls (st.map (cv cA B))) (rest.map (cv cA B)) (eQ D cA B Hb h' r a) (fun q => B ≤ q))
    (k : gW p l e R s m args below meth c Q D cA B Hb nL h' (pc + 3) lv (r.toList ++ rest) (cells + mc) (slots + ms)) : gW p l e R s m args below meth c Q D cA B Hb nL h pc lv st cells slots := by
  intro H locs ls w hl T hT X
  obtain ⟨v, st₀, t, T', L, h0, X', hL, e1, e2, ⟨hv, hH, hz⟩, stp⟩ := hr H locs ls w hl T hT X
  have hv' : v = r.map (cv cA B) := Outcome.returned.inj hv
  subst hv'
  obtain ⟨t2, a1, b1⟩ := k T'.heap (locs ++ L) ls ⟨by rw [e1]; exact hH, fun q hq => by
    rcases List.mem_append.mp hq with z | z
    · exact w.2 q z
    · exact hL q z⟩ hl T' rfl X'
  refine ⟨t2, stp t2 ?_, b1⟩
  have e3 : (r.toList ++ rest).map (cv cA B) = (r.map (cv cA B)).toList ++ rest.map (cv cA B) := by cases r <;> rfl
  rw [e3] at a1
  exact a1
theorem r_callS {d : Nat} {y : MethodName} {cy : ByteArray} {maxL idx n : Nat} {ry : Option FieldType} {As rest : List Value} {r : Option Value} {h' : aH} {mc ms : Nat} (C : cX p s m args meth c D cA B Hb own cc nL ret) (hE : EV d y cy maxL ry h As r h' mc ms) (M : mK y cy maxL ry n) (hsta : Cond.static y ∈ tB) (hlk : Cond.methodLink own idx y ∈ tB) (hst : As.reverse ++ rest = st) (hn : As.length = n) (dd : decode cc pc = .ok (.invokestatic idx, 3))
    (hW : (rest.map fun v => v.category).sum ≤ 8) (hR : d + 1 ≤ R.frames ∧ 8 + (maxL + 11) + 60 * d ≤ R.locals) (hf : cells + mc ≤ R.cells ∧ slots + ms ≤ R.slots)
    (k : gW p l e R s m args below meth c Q D cA B Hb nL h' (pc + 3) lv (r.toList ++ rest) (cells + mc) (slots + ms)) : gW p l e R s m args below meth c Q D cA B Hb nL h pc lv st cells slots := by
  obtain ⟨hx, hb, hml, hown, hts, hK, -, -⟩ := C
  refine gW_run (a := (As.map (cv cA B)).toArray) (rest := rest) (fun H locs ls w hl => ?_) k
  refine va_runS (As := As.map (cv cA B)) (n := n) (ret := ry) (bytes := cy) (maxL := maxL) ⟨hx, hb, hml, hown, hts⟩ (hE l D cA B Hb) ⟨callB_of n hts (tB_good y cy maxL ry M.1) rfl rfl rfl (hts _ M.2.1) (hts _ hlk) M.2.2 hR, hts _ hsta⟩ ⟨eP_blind, fun U hU hWm => ⟨rfl, by rw [hU]; exact w.1, zK.warm hWm hK⟩⟩ rfl (by rw [List.length_map]; exact hn) hl.1 (by rw [← hst]; simp) ?_ dd hf
  show 0 + _ ≤ 8
  rw [List.map_map, show ((fun v : Value => v.category) ∘ cv cA B) = (fun v => v.category) from funext (cv_cat cA B)]
  omega
theorem r_callV {d ci a : Nat} {y : MethodName} {cy : ByteArray} {maxL idx n : Nat} {ry : Option FieldType} {As rest : List Value} {r : Option Value} {h' : aH} {mc ms : Nat} {CC : String} {T : u_T} {N : Nat} (C : cX p s m args meth c D cA B Hb own cc nL ret) (hE : EV d y cy maxL ry h (.ref a :: As) r h' mc ms) (M : mK y cy maxL ry n) (hci : vwCl[ci]? = some (CC, T, N)) (ha : kd h a = ci) (hlt : ci < 20) (hins : Cond.instanceMethod y ∈ tB) (hsel : Cond.selects CC y y ∈ tB) (hlk : Cond.methodLink own idx y ∈ tB) (hst : As.reverse ++ .ref a :: rest = st) (hn : As.length = n) (dd : decode cc pc = .ok (.invokevirtual idx, 3))
    (hW : (rest.map fun v => v.category).sum ≤ 8) (hR : d + 1 ≤ R.frames ∧ 8 + (maxL + 11) + 60 * d ≤ R.locals) (hf : cells + mc ≤ R.cells ∧ slots + ms ≤ R.slots)
    (k : gW p l e R s m args below meth c Q D cA B Hb nL h' (pc + 3) lv (r.toList ++ rest) (cells + mc) (slots + ms)) : gW p l e R s m args below meth c Q D cA B Hb nL h pc lv st cells slots := by
  obtain ⟨hx, hb, hml, hown, hts, hK, -, -⟩ := C
  refine gW_run (a := (Value.ref (B + a) :: As.map (cv cA B)).toArray) (rest := rest) (fun H locs ls w hl => ?_) k
  have hP := wW_at w (a := a) (by omega)
  rw [cnE_obj ha hlt] at hP
  refine va_runV (As := As.map (cv cA B)) (b := B + a) (C := CC) (n := n) (ret := ry) (bytes := cy) (maxL := maxL) ⟨hx, hb, hml, hown, hts⟩ (hE l D cA B Hb) ⟨callB_of n hts (tB_good y cy maxL ry M.1) rfl rfl rfl (hts _ M.2.1) (hts _ hlk) M.2.2 hR, hts _ hins, hts _ hsel⟩ ⟨eP_blind, va_recv (q0 := 0) hK.1 hP hci rfl, fun U hU hWm => ⟨rfl, by rw [hU]; exact w.1, zK.warm hWm hK⟩⟩ rfl (by rw [List.length_map]; exact hn) hl.1 (by rw [← hst]; simp [cv]) ?_ dd hf
  show 0 + _ ≤ 8
  rw [List.map_map, show ((fun v : Value => v.category) ∘ cv cA B) = (fun v => v.category) from funext (cv_cat cA B)]
  omega
theorem r_callI {d a : Nat} {y : MethodName} {cy : ByteArray} {maxL idx n : Nat} {As rest : List Value} {h' : aH} {mc ms : Nat} (C : cX p s m args meth c D cA B Hb own cc nL ret) (hE : EV d y cy maxL none h (.ref a :: As) none h' mc ms) (M : mK y cy maxL none n) (hini : y.name = "<init>") (hins : Cond.instanceMethod y ∈ tB) (hlk : Cond.methodLink own idx y ∈ tB) (hst : As.reverse ++ .ref a :: rest = st) (hn : As.length = n) (dd : decode cc pc = .ok (.invokespecial idx, 3))
    (hW : (rest.map fun v => v.category).sum ≤ 8) (hR : d + 1 ≤ R.frames ∧ 8 + (maxL + 11) + 60 * d ≤ R.locals) (hf : cells + mc ≤ R.cells ∧ slots + ms ≤ R.slots)
    (k : gW p l e R s m args below meth c Q D cA B Hb nL h' (pc + 3) lv rest (cells + mc) (slots + ms)) : gW p l e R s m args below meth c Q D cA B Hb nL h pc lv st cells slots := by
  obtain ⟨hx, hb, hml, hown, hts, hK, -, -⟩ := C
  refine gW_run (a := (Value.ref (B + a) :: As.map (cv cA B)).toArray) (r := none) (rest := rest) (fun H locs ls w hl => ?_) k
  refine va_runI (As := As.map (cv cA B)) (b := B + a) (n := n) (bytes := cy) (maxL := maxL) ⟨hx, hb, hml, hown, hts⟩ (hE l D cA B Hb) ⟨callB_of n hts (tB_good y cy maxL none M.1) rfl rfl rfl (hts _ M.2.1) (hts _ hlk) M.2.2 hR, hini, hts _ hins⟩ ⟨eP_blind, fun U hU hWm => ⟨rfl, by rw [hU]; exact w.1, zK.warm hWm hK⟩⟩ rfl (by rw [List.length_map]; exact hn) hl.1 (by rw [← hst]; simp [cv]) ?_ dd hf
  show 0 + _ ≤ 8
  rw [List.map_map, show ((fun v : Value => v.category) ∘ cv cA B) = (fun v => v.category) from funext (cv_cat cA B)]
  omega
theorem r_callIN {d a : Nat} {y : MethodName} {cy : ByteArray} {maxL idx n : Nat} {As rest : List Value} {h' : aH} {mc ms : Nat} {host : String} (C : cX p s m args meth c D cA B Hb own cc nL ret) (hE : EV d y cy maxL none h (.ref a :: As) none h' mc ms) (M : mK y cy maxL none n) (hini : y.name = "<init>") (hins : Cond.instanceMethod y ∈ tB) (hlk : Cond.methodLinkNest own idx y host ∈ nestL) (hst : As.reverse ++ .ref a :: rest = st) (hn : As.length = n) (dd : decode cc pc = .ok (.invokespecial idx, 3))
    (hW : (rest.map fun v => v.category).sum ≤ 8) (hR : d + 1 ≤ R.frames ∧ 8 + (maxL + 11) + 60 * d ≤ R.locals) (hf : cells + mc ≤ R.cells ∧ slots + ms ≤ R.slots)
    (k : gW p l e R s m args below meth c Q D cA B Hb nL h' (pc + 3) lv rest (cells + mc) (slots + ms)) : gW p l e R s m args below meth c Q D cA B Hb nL h pc lv st cells slots := by
  obtain ⟨hx, hb, hml, hown, hts, hK, -, -⟩ := C
  refine gW_run (a := (Value.ref (B + a) :: As.map (cv cA B)).toArray) (r := none) (rest := rest) (fun H locs ls w hl => ?_) k
  refine va_runIN (As := As.map (cv cA B)) (b := B + a) (n := n) (bytes := cy) (maxL := maxL) ⟨hx, hb, hml, hown, hts⟩ (hE l D cA B Hb) ⟨va_cnB n hts (tB_good y cy maxL none M.1) rfl rfl rfl (hK.2.1 _ hlk) (hts _ M.2.1) M.2.2 hR, hini, hts _ hins⟩ ⟨eP_blind, fun U hU hWm => ⟨rfl, by rw [hU]; exact w.1, zK.warm hWm hK⟩⟩ rfl (by rw [List.length_map]; exact hn) hl.1 (by rw [← hst]; simp [cv]) ?_ dd hf
  show 0 + _ ≤ 8
  rw [List.map_map, show ((fun v : Value => v.category) ∘ cv cA B) = (fun v => v.category) from funext (cv_cat cA B)]
  omega
theorem r_obj {a idx : Nat} {rest : List Value} (C : cX p s m args meth c D cA B Hb own cc nL ret) (hlk : Cond.methodLink own idx objectInit ∈ tB) (dd : decode cc pc = .ok (.invokespecial idx, 3)) (hR : 1 ≤ R.frames ∧ 20 ≤ R.locals) (hW : (rest.map fun v => v.category).sum ≤ 8)
    (k : gW p l e R s m args below meth c Q D cA B Hb nL h (pc + 3) lv rest cells slots) : gW p l e R s m args below meth c Q D cA B Hb nL h pc lv (.ref a :: rest) cells slots := by
  obtain ⟨hx, hb, hml, hown, hts, hK, -, -⟩ := C
  intro H locs ls w hl
  refine W.objInit hx hb hown (hts _ hlk) (hts _ tb_oi) (hts _ tb_oc) rfl (hl.1.trans hml.symm) rfl dd hR.1 ?_ (k H locs ls w hl)
  show 0 + _ + 12 ≤ _
  rw [List.map_map, show ((fun v : Value => v.category) ∘ cv cA B) = (fun v => v.category) from funext (cv_cat cA B)]
  omega
theorem r_iret {v : Int32} {mc ms : Nat} (C : cX p s m args meth c D cA B Hb own cc nL (some .int)) (dd : decode cc pc = .ok (.ireturn, 1)) : gW p l e R s m args below meth c (MQ below (eQ D cA B Hb h (some (.int v))) args s mc ms (fun q => B ≤ q)) D cA B Hb nL h pc lv [.int v] mc ms := by
  obtain ⟨hx, hb, hml, hown, hts, hK, hlocks, hr⟩ := C
  exact fun H locs ls w hl => W.iret hx hb hr (fun t ht hW => ⟨rfl, by rw [ht]; exact w.1, zK.warm hW hK⟩) w.2 dd hlocks
theorem r_zret {v : Int32} {mc ms : Nat} (C : cX p s m args meth c D cA B Hb own cc nL (some .boolean)) (dd : decode cc pc = .ok (.ireturn, 1)) (hv : v = 0 ∨ v = 1) : gW p l e R s m args below meth c (MQ below (eQ D cA B Hb h (some (.int v))) args s mc ms (fun q => B ≤ q)) D cA B Hb nL h pc lv [.int v] mc ms := by
  obtain ⟨hx, hb, hml, hown, hts, hK, hlocks, hr⟩ := C
  exact fun H locs ls w hl => W.zret hx hb hr (by rcases hv with rfl | rfl <;> rfl) (fun t ht hW => ⟨rfl, by rw [ht]; exact w.1, zK.warm hW hK⟩) w.2 dd hlocks
theorem r_lret {v : Int64} {mc ms : Nat} (C : cX p s m args meth c D cA B Hb own cc nL (some .long)) (dd : decode cc pc = .ok (.lreturn, 1)) : gW p l e R s m args below meth c (MQ below (eQ D cA B Hb h (some (.long v))) args s mc ms (fun q => B ≤ q)) D cA B Hb nL h pc lv [.long v] mc ms := by
  obtain ⟨hx, hb, hml, hown, hts, hK, hlocks, hr⟩ := C
  exact fun H locs ls w hl => W.lret hx hb hr (fun t ht hW => ⟨rfl, by rw [ht]; exact w.1, zK.warm hW hK⟩) w.2 dd hlocks
theorem r_aret {v : Nat} {mc ms : Nat} {rt : FieldType} (C : cX p s m args meth c D cA B Hb own cc nL (some rt)) (hrt : (∃ n, rt = .object n) ∨ ∃ t, rt = .array t) (dd : decode cc pc = .ok (.areturn, 1)) : gW p l e R s m args below meth c (MQ below (eQ D cA B Hb h (some (.ref v))) args s mc ms (fun q => B ≤ q)) D cA B Hb nL h pc lv [.ref v] mc ms := by
  obtain ⟨hx, hb, hml, hown, hts, hK, hlocks, hr⟩ := C
  exact fun H locs ls w hl => W.aret hx hb hr hrt (Or.inr ⟨B + v, rfl⟩) (fun t ht hW => ⟨rfl, by rw [ht]; exact w.1, zK.warm hW hK⟩) w.2 dd hlocks
theorem r_vret {mc ms : Nat} (C : cX p s m args meth c D cA B Hb own cc nL none) (dd : decode cc pc = .ok (.return_, 1)) : gW p l e R s m args below meth c (MQ below (eQ D cA B Hb h none) args s mc ms (fun q => B ≤ q)) D cA B Hb nL h pc lv [] mc ms := by
  obtain ⟨hx, hb, hml, hown, hts, hK, hlocks, hr⟩ := C
  exact fun H locs ls w hl => W.vret hx hb hr (fun t ht hW => ⟨rfl, by rw [ht]; exact w.1, zK.warm hW hK⟩) w.2 dd hlocks
theorem r_wid {cells' slots' : Nat} (h1 : cells ≤ cells') (h2 : slots ≤ slots') (k : gW p l e R s m args below meth c Q D cA B Hb nL h pc lv st cells' slots') : gW p l e R s m args below meth c Q D cA B Hb nL h pc lv st cells slots := fun H locs ls w hl => W.widen h1 h2 (k H locs ls w hl)
theorem r_sub {lv' : List (Nat × Value)} (hs : ∀ q ∈ lv', q ∈ lv) (k : gW p l e R s m args below meth c Q D cA B Hb nL h pc lv' st cells slots) : gW p l e R s m args below meth c Q D cA B Hb nL h pc lv st cells slots := fun H locs ls w hl => k H locs ls w ⟨hl.1, hl.2.1, fun q hq => by
  obtain ⟨q', h1, h2⟩ := List.mem_map.mp hq
  exact hl.2.2 q (List.mem_map.mpr ⟨q', hs q' h1, h2⟩)⟩
end RC
