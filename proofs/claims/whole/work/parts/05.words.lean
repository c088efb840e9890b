def ftyOf (d : FieldType) : Nat := match d with
  | .int => 0
  | .boolean => 0
  | .long => 1
  | _ => 2
def ftys (c : Nat) : List FieldType := match c with
  | 0 => (List.range 5).map tyX0
  | 1 => (List.range 19).map tyX1
  | 2 => (List.range 8).map tyX2
  | 3 => (List.range 7).map tyX3
  | 4 => (List.range 14).map tyX4
  | 5 => (List.range 3).map tyX5
  | 6 => (List.range 6).map tyX6
  | 7 => (List.range 4).map tyX7
  | 8 => (List.range 8).map tyX8
  | 9 => (List.range 9).map tyX9
  | 10 => (List.range 4).map tyX10
  | 11 => (List.range 20).map tyX11
  | _ => (List.range 48).map tyX12
/-- what the tables say of a field that the pool's entry idx of the class own names: field k of class ci, of type ty, final or not -/
def fK (own : String) (idx ci k : Nat) (ty : FieldType) (fin : Bool) : Prop :=
  ∃ (C : String) (T : u_T) (N : Nat) (tt : Nat → FieldType), vwCl[ci]? = some (C, T, N) ∧ ci < 20 ∧ (∀ w ∈ u_ws C T N, w ∈ tB) ∧ k < N ∧ Cond.fieldLink own idx (T k).1 (T k).2.1 (T k).2.2.1 ∈ tB ∧ (T k).2.2.2 = fin ∧ ftys ci = (List.range N).map tt ∧ tt k = ty ∧
    (∀ j, j < N → parseFieldDescriptor (T j).2.2.1 = some (tt j)) ∧ (∀ a, a < N → ∀ b, b < N → a ≠ b → (T a).2.1 ≠ (T b).2.1) ∧ (own = C → (T k).1 = own)
/-- what the tables say of a method -/
def mK (y : MethodName) (cc : ByteArray) (maxL : Nat) (ret : Option FieldType) (n : Nat) : Prop := Cond.code y cc maxL ret ∈ tB ∧ Cond.initialized y.cls ∈ tB ∧ y.cls ≠ "java/lang/invoke/MethodHandle" ∧ y.cls ≠ "java/lang/invoke/VarHandle" ∧ (parseMethodDescriptor y.desc).map (fun d => d.parameters.length) = some n
def nK (own : String) (idx ci N : Nat) : Prop :=
  ∃ (C : String) (T : u_T) (tt : Nat → FieldType), vwCl[ci]? = some (C, T, N) ∧ ci < 20 ∧ (∀ w ∈ u_ws C T N, w ∈ tB) ∧ Cond.classLink own idx C ∈ tB ∧ Cond.instantiable C N ∈ tB ∧ Cond.initialized C ∈ tB ∧ ftys ci = (List.range N).map tt ∧ (∀ j, j < N → parseFieldDescriptor (T j).2.2.1 = some (tt j)) ∧ ∀ j, j < N → (tt j = .int ∨ tt j = .boolean ∨ tt j = .long ∨ (∃ c, tt j = .object c) ∨ ∃ t, tt j = .array t)
