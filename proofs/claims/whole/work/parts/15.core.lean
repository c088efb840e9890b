/-! ===== the heap as a picture: shapes, ints, longs, references; references are numbers of cells in the order in which they were made ===== -/
abbrev aH : Type := List (Nat × Nat) × (Nat → Nat → Int32) × (Nat → Nat → Int64) × (Nat → Nat → Option Nat)
def kd (h : aH) (a : Nat) : Nat := (h.1.getD a (99, 0)).1
def ln (h : aH) (a : Nat) : Nat := (h.1.getD a (99, 0)).2
def up2 {α : Type} (f : Nat → Nat → α) (a k : Nat) (x : α) : Nat → Nat → α := fun i => if i = a then va_up (f a) k x else f i
def hI (h : aH) (a k : Nat) (x : Int32) : aH := (h.1, up2 h.2.1 a k x, h.2.2.1, h.2.2.2)
def hJ (h : aH) (a k : Nat) (x : Int64) : aH := (h.1, h.2.1, up2 h.2.2.1 a k x, h.2.2.2)
def hR (h : aH) (a k : Nat) (x : Option Nat) : aH := (h.1, h.2.1, h.2.2.1, up2 h.2.2.2 a k x)
def cv (cA : Nat → ClassId) (B : Nat) : Value → Value
  | .ref a => .ref (B + a)
  | .retAddr k => .ref (cA (30 + k))
  | v => v
def cnF (B : Nat) (h : aH) (i : Nat) (k : Nat) (t : FieldType) : Value :=
  if ftyOf t = 0 then .int (h.2.1 i k) else if ftyOf t = 1 then .long (h.2.2.1 i k) else va_rf ((h.2.2.2 i k).map (B + ·))
def cnE (cA : Nat → ClassId) (B : Nat) (h : aH) (i : Nat) : va_E :=
  if kd h i < 20 then .inr (kd h i, (ftys (kd h i)).mapIdx (cnF B h i))
  else .inl (cA (kd h i), ln h i, if kd h i = 21 then .inr (.inl (h.2.2.1 i)) else if 24 ≤ kd h i then .inr (.inr (.inr (.inr (fun j => (h.2.2.2 i j).map (B + ·))))) else .inl (h.2.1 i))
def tyA (cA : Nat → ClassId) : List (ClassId × FieldType) := [(cA 20, .int), (cA 21, .long), (cA 22, .byte), (cA 23, .boolean), (cA 24, .object RX1), (cA 25, .object RX5)]
def wH (D : va_G) (cA : Nat → ClassId) (B : Nat) (Hb : Heap) (h : aH) (H : Heap) : Prop :=
  H.size = B + h.1.length ∧ (∀ i, i < h.1.length → va_at D vwCl (B + i, cnE cA B h i) H) ∧ ∀ q, q < B → H[q]? = Hb[q]?
def wW (D : va_G) (cA : Nat → ClassId) (B : Nat) (Hb : Heap) (h : aH) (H : Heap) (locs : List Loc) : Prop := wH D cA B Hb h H ∧ ∀ q ∈ locs, B ≤ q.base
def nestL : List Cond := [.methodLinkNest "AskingCourt" 44 ⟨"AskingCourt$Plan", "<init>", "()V"⟩ "AskingCourt", .methodLinkNest "AskingCourt$Case" 11 ⟨"AskingCourt$Names", "<init>", "()V"⟩ "AskingCourt", .methodLinkNest "AskingCourt$CaseReader" 11 ⟨"AskingCourt$AnswerMaker", "<init>", "()V"⟩ "AskingCourt", .methodLinkNest "AskingCourt$Hearing" 11 ⟨"AskingCourt$Minutes", "<init>", "()V"⟩ "AskingCourt", .methodLinkNest "AskingCourt$Mark" 9 ⟨"AskingCourt$Plan", "<init>", "()V"⟩ "AskingCourt", .methodLinkNest "AskingCourt$Mark" 18 ⟨"AskingCourt$Minutes", "<init>", "()V"⟩ "AskingCourt", .methodLinkNest "AskingCourt" 341 ⟨"AskingCourt$Search", "firstOf", "(III)I"⟩ "AskingCourt"]
def stB : List (List Int32) := [[102, 97, 99, 116, 32, 104, 97, 115, 32, 110, 101, 118, 101, 114, 32, 113, 117, 101, 115, 116, 105, 111, 110, 32, 102, 101, 101, 32, 97, 115, 107, 115, 32, 119, 105, 116, 110, 101, 115, 115, 32, 107, 110, 111, 119, 115, 32, 109, 97, 121, 32, 104, 105, 100, 101, 115, 32, 111, 114, 32, 97, 110, 100, 32, 110, 111, 116, 32, 104, 111, 110, 101, 115, 116, 32, 116, 117, 114, 110, 115, 32, 111, 116, 104, 101, 114, 32, 115, 105, 108, 101, 110, 116, 32, 97, 115, 107, 32, 98, 101, 115, 116, 32, 110, 101, 120, 116, 32, 114, 117, 108, 101, 32, 119, 104, 101, 110, 32, 115, 117, 114, 101, 32, 121, 101, 115, 32, 110, 111, 32, 108, 101, 102, 116, 32, 101, 110, 100, 32], [32, 102, 97, 99, 116, 32, 110, 101, 118, 101, 114, 32, 113, 117, 101, 115, 116, 105, 111, 110, 32, 119, 105, 116, 110, 101, 115, 115, 32, 104, 97, 115, 32, 102, 101, 101, 32, 97, 115, 107, 115, 32, 107, 110, 111, 119, 115, 32, 109, 97, 121, 32, 104, 105, 100, 101, 115, 32, 111, 114, 32, 97, 110, 100, 32, 110, 111, 116, 32, 104, 111, 110, 101, 115, 116, 32, 116, 117, 114, 110, 115, 32, 111, 116, 104, 101, 114, 32, 115, 105, 108, 101, 110, 116, 32, 97, 115, 107, 32, 98, 101, 115, 116, 32, 110, 101, 120, 116, 32, 114, 117, 108, 101, 32, 119, 104, 101, 110, 32, 115, 117, 114, 101, 32, 121, 101, 115, 32, 110, 111, 32, 108, 101, 102, 116, 32, 101, 110, 100, 32]]
def stN : List Nat := [139, 140]
def sK (cA : Nat → ClassId) (B : Nat) (Hb : Heap) (U : State) : Prop := vk_S 2 stN stB (fun i => cA (30 + i)) (fun i => cA (32 + i)) (fun q => B ≤ q) U Hb ∧ vk_R RX4 58 "fact has never question fee asks witness knows may hides or and not honest turns other silent ask best next rule when sure yes no left end " (cA 30) U ∧ vk_R RX12 206 " fact never question witness has fee asks knows may hides or and not honest turns other silent ask best next rule when sure yes no left end " (cA 31) U ∧ va_Z "java/lang/String" "COMPACT_STRINGS" "Z" (.int 1) (fun q => B ≤ q) U Hb ∧ (va_Z "jdk/internal/util/Preconditions" "SIOOBE_FORMATTER" "Ljava/util/function/BiFunction;" .null (fun q => B ≤ q) U Hb ∨ va_Z "jdk/internal/util/Preconditions" "SIOOBE_FORMATTER" "Ljava/util/function/BiFunction;" (.ref (cA 34)) (fun q => B ≤ q) U Hb)
/-- what the machine's tables say, and stays so: classes, array classes, nest mates, text constants -/
def zK (D : va_G) (cA : Nat → ClassId) (B : Nat) (Hb : Heap) (U : State) : Prop := va_K D vwCl (tyA cA) U ∧ (∀ w ∈ nestL, va_Nw w U) ∧ va_AO RX1 U ∧ va_AO RX5 U ∧ sK cA B Hb U
theorem sK.moved {cA : Nat → ClassId} {B : Nat} {Hb : Heap} {u U : State} (h : u.vm = U.vm) (k : sK cA B Hb u) : sK cA B Hb U := by
  have ha : u.vm.Alike U.vm := by rw [h]; exact Vm.Alike.refl _
  exact ⟨k.1.moved ha, k.2.1.same h.symm, k.2.2.1.same h.symm, k.2.2.2.1.moved ha, k.2.2.2.2.imp (va_Z.moved ha) (va_Z.moved ha)⟩
theorem sK.warm {cA : Nat → ClassId} {B : Nat} {Hb : Heap} {u U : State} (h : u.WarmedH U.vm) (k : sK cA B Hb u) : sK cA B Hb U := ⟨k.1.moved h.alike, k.2.1.warm h, k.2.2.1.warm h, k.2.2.2.1.moved h.alike, k.2.2.2.2.imp (va_Z.moved h.alike) (va_Z.moved h.alike)⟩
theorem nest_tab : ∀ w ∈ nestL, w.onTables = true := by decide +kernel
theorem nest_warm {s U : State} (hW : s.WarmedH U.vm) : ∀ w ∈ nestL, va_Nw w s → va_Nw w U := by
  intro w hw
  simp only [nestL, List.mem_cons, List.not_mem_nil, or_false] at hw
  rcases hw with rfl | rfl | rfl | rfl | rfl | rfl | rfl <;> exact fun h => va_Nw.warmM hW h
theorem zK.moved {D : va_G} {cA : Nat → ClassId} {B : Nat} {Hb : Heap} {u U : State} (h : u.vm = U.vm) (k : zK D cA B Hb u) : zK D cA B Hb U := by
  have ha : u.vm.Alike U.vm := by rw [h]; exact Vm.Alike.refl _
  exact ⟨k.1.moved ha, fun w hw => va_Nw.same (nest_tab w hw) h (k.2.1 w hw), k.2.2.1.moved ha, k.2.2.2.1.moved ha, sK.moved h k.2.2.2.2⟩
theorem zK.warm {D : va_G} {cA : Nat → ClassId} {B : Nat} {Hb : Heap} {u U : State} (h : u.WarmedH U.vm) (k : zK D cA B Hb u) : zK D cA B Hb U :=
  ⟨k.1.moved h.alike, fun w hw => nest_warm h w hw (k.2.1 w hw), k.2.2.1.moved h.alike, k.2.2.2.1.moved h.alike, sK.warm h k.2.2.2.2⟩
theorem tb_oi : Cond.instanceMethod objectInit ∈ tB := in_tB 174 (by decide +kernel) (by decide +kernel)
theorem tb_oc : Cond.code objectInit ⟨#[0xb1]⟩ 1 none ∈ tB := in_tB 175 (by decide +kernel) (by decide +kernel)
def lvm (cA : Nat → ClassId) (B : Nat) (lv : List (Nat × Value)) : List (Nat × Value) := lv.map (fun q => (q.1, cv cA B q.2))
def lvG (lv : List (Nat × Value)) (i : Nat) : Option Value := (lv.find? (fun q => q.1 == i)).map (·.2)
def lvS (lv : List (Nat × Value)) (i : Nat) (v : Value) : List (Nat × Value) := (i, v) :: lv.filter (fun q => !(q.1 == i) && !(q.1 + 1 == i && q.2.category == 2))
def lvL (lv : List (Nat × Value)) (i : Nat) (v : Value) : List (Nat × Value) := (i, v) :: lv.filter (fun q => !(q.1 == i) && (!(q.1 == i + 1) && !(q.1 + 1 == i && q.2.category == 2)))
def cX (p : Program) (s : State) (m : MethodId) (args : Array Value) (meth : Method) (c : Code) (D : va_G) (cA : Nat → ClassId) (B : Nat) (Hb : Heap) (own : String) (cc : ByteArray) (nL : Nat) (ret : Option FieldType) : Prop :=
  p.tables.exec = Jvm.exec ∧ c.code = cc ∧ c.maxLocals = nL ∧ s.vm.findClass own = some m.cls ∧ (∀ w ∈ tB, w.before args s = true) ∧ zK D cA B Hb s ∧ meth.locks = false ∧ meth.sig.returnType = ret
def gW (p : Program) (l : Launch) (e : Env) (R : Room) (s : State) (m : MethodId) (args : Array Value) (below : List Frame) (meth : Method) (c : Code) (Q : State → Prop) (D : va_G) (cA : Nat → ClassId) (B : Nat) (Hb : Heap) (nL : Nat) (h : aH) (pc : Nat) (lv : List (Nat × Value)) (st : List Value) (cells slots : Nat) : Prop :=
  ∀ (H : Heap) (locs : List Loc) (ls : Array Slot), wW D cA B Hb h H locs → lv_has ls nL (lvm cA B lv) → W p l e R s m args below meth c H locs cells slots Q (F0 m pc ls (st.map (cv cA B)))
theorem cv_cat (cA : Nat → ClassId) (B : Nat) (v : Value) : (cv cA B v).category = v.category := by cases v <;> rfl
theorem lvm_filter (cA : Nat → ClassId) (B : Nat) (P : Nat → Nat → Bool) (lv : List (Nat × Value)) : (lvm cA B lv).filter (fun q => P q.1 q.2.category) = lvm cA B (lv.filter (fun q => P q.1 q.2.category)) := by
  induction lv with
  | nil => rfl
  | cons a t ih =>
    simp only [lvm, List.map_cons] at ih ⊢
    by_cases hp : P a.1 a.2.category = true
    · rw [List.filter_cons_of_pos (by simpa [cv_cat] using hp), List.filter_cons_of_pos (by simpa using hp), List.map_cons, ih]
    · rw [List.filter_cons_of_neg (by simpa [cv_cat] using hp), List.filter_cons_of_neg (by simpa using hp), ih]
theorem lvm_S (cA : Nat → ClassId) (B : Nat) (lv : List (Nat × Value)) (i : Nat) (v : Value) : (i, cv cA B v) :: (lvm cA B lv).filter (fun q => !(q.1 == i) && !(q.1 + 1 == i && q.2.category == 2)) = lvm cA B (lvS lv i v) := by
  rw [lvm_filter cA B (fun a b => !(a == i) && !(a + 1 == i && b == 2)) lv]; rfl
theorem lvm_L (cA : Nat → ClassId) (B : Nat) (lv : List (Nat × Value)) (i : Nat) (v : Value) : (i, cv cA B v) :: (lvm cA B lv).filter (fun q => !(q.1 == i) && (!(q.1 == i + 1) && !(q.1 + 1 == i && q.2.category == 2))) = lvm cA B (lvL lv i v) := by
  rw [lvm_filter cA B (fun a b => !(a == i) && (!(a == i + 1) && !(a + 1 == i && b == 2))) lv]; rfl
theorem lvG_mem {lv : List (Nat × Value)} {i : Nat} {v : Value} (h : lvG lv i = some v) : (i, v) ∈ lv := by
  unfold lvG at h
  cases hf : lv.find? (fun q => q.1 == i) with
  | none => rw [hf] at h; cases h
  | some q =>
    rw [hf] at h
    have h1 := List.mem_of_find?_eq_some hf
    have h2 := List.find?_some hf
    simp only [beq_iff_eq] at h2
    cases h
    rw [← h2]
    exact h1
theorem lvG_at {cA : Nat → ClassId} {B : Nat} {ls : Array Slot} {nL : Nat} {lv : List (Nat × Value)} {i : Nat} {v : Value} (hl : lv_has ls nL (lvm cA B lv)) (h : lvG lv i = some v) : ls[i]? = some (.val (cv cA B v)) :=
  hl.2.2 (i, cv cA B v) (List.mem_map.mpr ⟨(i, v), lvG_mem h, rfl⟩)
theorem kd_lt {h : aH} {a : Nat} (hk : kd h a ≠ 99) : a < h.1.length := by
  rcases Nat.lt_or_ge a h.1.length with q | q
  · exact q
  · refine absurd ?_ hk
    unfold kd
    rw [List.getD_eq_getElem?_getD, List.getElem?_eq_none q]
    rfl
theorem wW_at {D : va_G} {cA : Nat → ClassId} {B : Nat} {Hb H : Heap} {h : aH} {locs : List Loc} (w : wW D cA B Hb h H locs) {a : Nat} (ha : kd h a ≠ 99) : va_P D vwCl [(B + a, cnE cA B h a)] H := by
  intro k q hk
  match k, hk with
  | 0, hk => cases hk; exact w.1.2.1 a (kd_lt ha)
  | k + 1, hk => simp at hk
theorem up2_ne {α : Type} {f : Nat → Nat → α} {a k i : Nat} {x : α} (h : i ≠ a) : up2 f a k x i = f i := by simp [up2, h]
theorem up2_self {α : Type} {f : Nat → Nat → α} {a k : Nat} {x : α} : up2 f a k x a = va_up (f a) k x := by simp [up2]
theorem kd_hI {h : aH} {a k i : Nat} {x : Int32} : kd (hI h a k x) i = kd h i := rfl
theorem cnE_hI {cA : Nat → ClassId} {B : Nat} {h : aH} {a k i : Nat} {x : Int32} (hi : i ≠ a) : cnE cA B (hI h a k x) i = cnE cA B h i := by
  have e : (hI h a k x).2.1 i = h.2.1 i := up2_ne hi
  unfold cnE cnF
  rw [e]
  rfl
theorem cnE_hJ {cA : Nat → ClassId} {B : Nat} {h : aH} {a k i : Nat} {x : Int64} (hi : i ≠ a) : cnE cA B (hJ h a k x) i = cnE cA B h i := by
  have e : (hJ h a k x).2.2.1 i = h.2.2.1 i := up2_ne hi
  unfold cnE cnF
  rw [e]
  rfl
theorem cnE_hR {cA : Nat → ClassId} {B : Nat} {h : aH} {a k i : Nat} {x : Option Nat} (hi : i ≠ a) : cnE cA B (hR h a k x) i = cnE cA B h i := by
  have e : (hR h a k x).2.2.2 i = h.2.2.2 i := up2_ne hi
  unfold cnE cnF
  rw [e]
  rfl
theorem wW_set {D : va_G} {cA : Nat → ClassId} {B : Nat} {Hb H H1 : Heap} {h h' : aH} {locs : List Loc} (w : wW D cA B Hb h H locs) (a k : Nat) (hs : h'.1 = h.1) (hne : ∀ i, i ≠ a → cnE cA B h' i = cnE cA B h i) (hz : H1.size = H.size) (ho : ∀ q, q ≠ B + a → H1[q]? = H[q]?) (hat : va_at D vwCl (B + a, cnE cA B h' a) H1) : wW D cA B Hb h' H1 (locs ++ [⟨B + a, k⟩]) := by
  obtain ⟨⟨h1, h2, h3⟩, h4⟩ := w
  refine ⟨⟨by rw [hz, hs]; exact h1, fun i hi => ?_, fun q hq => ?_⟩, fun q hq => ?_⟩
  · by_cases hia : i = a
    · subst hia; exact hat
    · rw [hne i hia]
      exact (h2 i (by rw [← hs]; exact hi)).kept (ho (B + i) (by omega))
  · rw [ho q (by omega)]; exact h3 q hq
  · rcases List.mem_append.mp hq with h | h
    · exact h4 q h
    · rw [List.mem_singleton] at h
      subst h
      exact Nat.le_add_right _ _
