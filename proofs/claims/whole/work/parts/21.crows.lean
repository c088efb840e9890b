/-! ===== calls that make no cells ===== -/
section RD
variable {p : Program} {l : Launch} {e : Env} {R : Room} {s : State} {m : MethodId} {args : Array Value} {below : List Frame} {meth : Method} {c : Code} {Q : State → Prop} {D : va_G} {cA : Nat → ClassId} {B : Nat} {Hb : Heap} {nL : Nat} {h : aH} {pc : Nat} {lv : List (Nat × Value)} {st : List Value} {cells slots : Nat} {own : String} {cc : ByteArray} {ret : Option FieldType}
theorem r_cS {d : Nat} {y : MethodName} {cy : ByteArray} {maxL idx n : Nat} {ry : Option FieldType} {As rest st2 : List Value} {r : Option Value} {h' : aH} (C : cX p s m args meth c D cA B Hb own cc nL ret) (hE : EV d y cy maxL ry h As r h' 0 0) (M : mK y cy maxL ry n) (hsta : Cond.static y ∈ tB) (hlk : Cond.methodLink own idx y ∈ tB) (hst : As.reverse ++ rest = st) (hn : As.length = n) (h2 : r.toList ++ rest = st2) (dd : decode cc pc = .ok (.invokestatic idx, 3))
    (hW : (rest.map fun v => v.category).sum ≤ 8) (hR : d + 1 ≤ R.frames ∧ 8 + (maxL + 11) + 60 * d ≤ R.locals) (hf : cells ≤ R.cells ∧ slots ≤ R.slots)
    (k : gW p l e R s m args below meth c Q D cA B Hb nL h' (pc + 3) lv st2 cells slots) : gW p l e R s m args below meth c Q D cA B Hb nL h pc lv st cells slots := by
  subst h2
  exact r_callS C hE M hsta hlk hst hn dd hW hR hf k
theorem r_cV {d ci a : Nat} {y : MethodName} {cy : ByteArray} {maxL idx n : Nat} {ry : Option FieldType} {As rest st2 : List Value} {r : Option Value} {h' : aH} {CC : String} {T : u_T} {N : Nat} (C : cX p s m args meth c D cA B Hb own cc nL ret) (hE : EV d y cy maxL ry h (.ref a :: As) r h' 0 0) (M : mK y cy maxL ry n) (hci : vwCl[ci]? = some (CC, T, N)) (ha : kd h a = ci) (hlt : ci < 20) (hins : Cond.instanceMethod y ∈ tB) (hsel : Cond.selects CC y y ∈ tB) (hlk : Cond.methodLink own idx y ∈ tB) (hst : As.reverse ++ .ref a :: rest = st) (hn : As.length = n) (h2 : r.toList ++ rest = st2) (dd : decode cc pc = .ok (.invokevirtual idx, 3))
    (hW : (rest.map fun v => v.category).sum ≤ 8) (hR : d + 1 ≤ R.frames ∧ 8 + (maxL + 11) + 60 * d ≤ R.locals) (hf : cells ≤ R.cells ∧ slots ≤ R.slots)
    (k : gW p l e R s m args below meth c Q D cA B Hb nL h' (pc + 3) lv st2 cells slots) : gW p l e R s m args below meth c Q D cA B Hb nL h pc lv st cells slots := by
  subst h2
  exact r_callV C hE M hci ha hlt hins hsel hlk hst hn dd hW hR hf k
end RD
