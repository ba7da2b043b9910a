/-! words, methods, places of a pool -/
abbrev MInfo : Type := MethodName × (ByteArray × (Nat × (Option FieldType × String)))
abbrev MCell : Type := Nat × (List Value ⊕ (List Int32 ⊕ List Int64))
abbrev MH : Type := Nat × (Nat × List MCell)
abbrev MLoc : Type := List (Option Value)
abbrev GC : Type := Heap × ((Nat → Nat) × va_G)
def ALLW : List Cond := lw_tbl.filter goodWord
def isNestW : Cond → Bool
  | .methodLinkNest .. => true
  | _ => false
def nestW : List Cond := lw_tbl.filter isNestW
theorem aw_of {i : Nat} {w : Cond} (h : lw_tbl[i]? = some w) (g : goodWord w = true) : w ∈ ALLW := List.mem_filter.mpr ⟨List.mem_of_getElem? h, g⟩
theorem nw_of {i : Nat} {w : Cond} (h : lw_tbl[i]? = some w) (g : isNestW w = true) : w ∈ nestW := List.mem_filter.mpr ⟨List.mem_of_getElem? h, g⟩
/-- a place of a class's pool that links a field -/
def FS (own : String) (k ci f : Nat) : Prop := ∃ (C : String) (T : u_T) (N : Nat), vwCl[ci]? = some (C, T, N) ∧ ci < 9 ∧ f < N ∧ (∀ w ∈ u_ws C T N, w ∈ ALLW) ∧ Cond.fieldLink own k (T f).1 (T f).2.1 (T f).2.2.1 ∈ ALLW
def FP (own : String) (k ci f : Nat) (ty : FieldType) : Prop := ∃ (C : String) (T : u_T) (N : Nat) (ty0 : Nat → FieldType), vwCl[ci]? = some (C, T, N) ∧ ci < 9 ∧ f < N ∧ (∀ w ∈ u_ws C T N, w ∈ ALLW) ∧ Cond.fieldLink own k (T f).1 (T f).2.1 (T f).2.2.1 ∈ ALLW ∧ (∀ k, k < N → parseFieldDescriptor (T k).2.2.1 = some (ty0 k)) ∧ (∀ a, a < N → ∀ b, b < N → a ≠ b → (T a).2.1 ≠ (T b).2.1) ∧ (T f).2.2.2 = false ∧ ty0 f = ty
def FPF (own : String) (k ci f : Nat) (ty : FieldType) : Prop := ∃ (C : String) (T : u_T) (N : Nat) (ty0 : Nat → FieldType), vwCl[ci]? = some (C, T, N) ∧ ci < 9 ∧ f < N ∧ (∀ w ∈ u_ws C T N, w ∈ ALLW) ∧ Cond.fieldLink own k (T f).1 (T f).2.1 (T f).2.2.1 ∈ ALLW ∧ (∀ k, k < N → parseFieldDescriptor (T k).2.2.1 = some (ty0 k)) ∧ (∀ a, a < N → ∀ b, b < N → a ≠ b → (T a).2.1 ≠ (T b).2.1) ∧ (T f).2.2.2 = true ∧ ty0 f = ty ∧ (T f).1 = own
/-- a method that the tables know -/
def MOK (M : MInfo) : Prop := Cond.code M.1 M.2.1 M.2.2.1 M.2.2.2.1 ∈ ALLW ∧ Cond.initialized M.1.cls ∈ ALLW ∧ (M.1.cls ≠ "java/lang/invoke/MethodHandle" ∧ M.1.cls ≠ "java/lang/invoke/VarHandle") ∧ plainName M.1.cls = true ∧ M.2.2.1 ≤ 30 ∧ M.1.cls = M.2.2.2.2
/-- sites: static, of an instance, of a constructor; of a nest mate's private one -/
def ST (own : String) (k n : Nat) (M : MInfo) : Prop := MOK M ∧ Cond.methodLink own k M.1 ∈ ALLW ∧ Cond.static M.1 ∈ ALLW ∧ (parseMethodDescriptor M.1.desc).map (fun d => d.parameters.length) = some n
def SV (own : String) (k n : Nat) (M : MInfo) : Prop := MOK M ∧ Cond.methodLink own k M.1 ∈ ALLW ∧ Cond.instanceMethod M.1 ∈ ALLW ∧ Cond.selects M.1.cls M.1 M.1 ∈ ALLW ∧ (parseMethodDescriptor M.1.desc).map (fun d => d.parameters.length) = some n
def SI (own : String) (k n : Nat) (M : MInfo) : Prop := MOK M ∧ Cond.methodLink own k M.1 ∈ ALLW ∧ Cond.instanceMethod M.1 ∈ ALLW ∧ M.1.name = "<init>" ∧ M.2.2.2.1 = none ∧ (parseMethodDescriptor M.1.desc).map (fun d => d.parameters.length) = some n
def STN (own : String) (k n : Nat) (M : MInfo) : Prop := MOK M ∧ (∃ host, Cond.methodLinkNest own k M.1 host ∈ nestW) ∧ Cond.static M.1 ∈ ALLW ∧ (parseMethodDescriptor M.1.desc).map (fun d => d.parameters.length) = some n
def SIN (own : String) (k n : Nat) (M : MInfo) : Prop := MOK M ∧ (∃ host, Cond.methodLinkNest own k M.1 host ∈ nestW) ∧ Cond.instanceMethod M.1 ∈ ALLW ∧ M.1.name = "<init>" ∧ M.2.2.2.1 = none ∧ (parseMethodDescriptor M.1.desc).map (fun d => d.parameters.length) = some n
