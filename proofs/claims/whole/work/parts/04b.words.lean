/-- the tables: all good words; the nest mates' calls -/
def ez_tbl : List Cond := lw_tbl.filter goodWord
def ez_isN : Cond → Bool
  | .methodLinkNest _ _ _ _ => true
  | _ => false
def ez_nest : List Cond := lw_tbl.filter ez_isN
abbrev EzY : Type := MethodName × ByteArray × Nat × Option FieldType
def ez_FL (own : String) (idx k f : Nat) : Prop := ∃ (C : String) (T : u_T) (N : Nat), vwCl[k]? = some (C, T, N) ∧ f < N ∧ Cond.fieldLink own idx (T f).1 (T f).2.1 (T f).2.2.1 ∈ ez_tbl ∧ (∀ w ∈ u_ws C T N, w ∈ ez_tbl)
def ez_FP (own : String) (idx k f : Nat) (ty : FieldType) : Prop := ∃ (C : String) (T : u_T) (N : Nat) (ty0 : Nat → FieldType), vwCl[k]? = some (C, T, N) ∧ f < N ∧ Cond.fieldLink own idx (T f).1 (T f).2.1 (T f).2.2.1 ∈ ez_tbl ∧ (∀ w ∈ u_ws C T N, w ∈ ez_tbl) ∧ (T f).2.2.2 = false ∧ parseFieldDescriptor (T f).2.2.1 = some ty ∧ (∀ k, k < N → parseFieldDescriptor (T k).2.2.1 = some (ty0 k)) ∧ (∀ a, a < N → ∀ b, b < N → a ≠ b → (T a).2.1 ≠ (T b).2.1)
/-- what a callee must have in the tables -/
def ez_MO (Z : EzY) (n : Nat) : Prop := Cond.code Z.1 Z.2.1 Z.2.2.1 Z.2.2.2 ∈ ez_tbl ∧ Cond.initialized Z.1.cls ∈ ez_tbl ∧ (Z.1.cls ≠ "java/lang/invoke/MethodHandle" ∧ Z.1.cls ≠ "java/lang/invoke/VarHandle" ∧ (parseMethodDescriptor Z.1.desc).map (fun d => d.parameters.length) = some n) ∧ Z.2.2.1 ≤ 109
