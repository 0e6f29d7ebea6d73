/-- the words of the tables that every method shares -/
def z_all : List Cond := lw_tbl.filter goodWord
theorem z_in {w : Cond} (h : w ∈ lw_tbl) (hg : goodWord w = true) : w ∈ z_all := List.mem_filter.mpr ⟨h, hg⟩
/-- links to private members of a nest mate -/
def z_isN (w : Cond) : Bool := match w with
  | .fieldLinkNest .. => true
  | .methodLinkNest .. => true
  | _ => false
def z_nest : List Cond := lw_tbl.filter z_isN
theorem z_inN {w : Cond} (h : w ∈ lw_tbl) (hg : z_isN w = true) : w ∈ z_nest := List.mem_filter.mpr ⟨h, hg⟩
/-- a getfield or putfield of class number ci, field number j, by entry idx of class own -/
def z_GF (own : String) (idx ci j : Nat) : Prop := ∃ (C : String) (T : u_T) (N : Nat), vwCl[ci]? = some (C, T, N) ∧ j < N ∧ (∀ w ∈ u_ws C T N, w ∈ z_all) ∧ (Cond.fieldLink own idx (T j).1 (T j).2.1 (T j).2.2.1 ∈ z_all ∨ ∃ host, Cond.fieldLinkNest own idx (T j).1 (T j).2.1 (T j).2.2.1 host ∈ z_nest)
def z_PF (own : String) (idx ci j : Nat) (ty : FieldType) : Prop := ∃ (C : String) (T : u_T) (N : Nat) (ty0 : Nat → FieldType), vwCl[ci]? = some (C, T, N) ∧ j < N ∧ (∀ w ∈ u_ws C T N, w ∈ z_all) ∧ (Cond.fieldLink own idx (T j).1 (T j).2.1 (T j).2.2.1 ∈ z_all) ∧ (∀ k, k < N → parseFieldDescriptor (T k).2.2.1 = some (ty0 k)) ∧ (∀ a, a < N → ∀ b, b < N → a ≠ b → (T a).2.1 ≠ (T b).2.1) ∧ (T j).2.2.2 = false ∧ parseFieldDescriptor (T j).2.2.1 = some ty
def z_CV (own : String) (idx : Nat) (y : MethodName) (cc : ByteArray) (nL : Nat) (ret : Option FieldType) (n : Nat) : Prop := Cond.methodLink own idx y ∈ z_all ∧ Cond.instanceMethod y ∈ z_all ∧ Cond.selects y.cls y y ∈ z_all ∧ Cond.initialized y.cls ∈ z_all ∧ Cond.code y cc nL ret ∈ z_all ∧ (y.cls ≠ "java/lang/invoke/MethodHandle" ∧ y.cls ≠ "java/lang/invoke/VarHandle" ∧ (parseMethodDescriptor y.desc).map (fun d => d.parameters.length) = some n) ∧ nL ≤ 21
def z_CS (own : String) (idx : Nat) (y : MethodName) (cc : ByteArray) (nL : Nat) (ret : Option FieldType) (n : Nat) : Prop := (Cond.methodLink own idx y ∈ z_all ∨ ∃ host, Cond.methodLinkNest own idx y host ∈ z_nest) ∧ Cond.static y ∈ z_all ∧ Cond.initialized y.cls ∈ z_all ∧ Cond.code y cc nL ret ∈ z_all ∧ (y.cls ≠ "java/lang/invoke/MethodHandle" ∧ y.cls ≠ "java/lang/invoke/VarHandle" ∧ (parseMethodDescriptor y.desc).map (fun d => d.parameters.length) = some n) ∧ nL ≤ 21
def z_CM (own : String) (idx : Nat) : Prop := Cond.methodLink own idx Lib.Math.min.name ∈ z_all ∧ Cond.static Lib.Math.min.name ∈ z_all ∧ Cond.initialized "java/lang/Math" ∈ z_all ∧ Cond.code Lib.Math.min.name Lib.Math.min.code 2 (some .int) ∈ z_all
