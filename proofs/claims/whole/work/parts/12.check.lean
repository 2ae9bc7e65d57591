/-! ===== the tables of the classes and methods, checked ===== -/
/-- classes with the types of their fields; methods: name, code, locals, returned type, parameters, receiver's class; of each class the constants that are used -/
abbrev x_CL : Type := List (vw_C × (Nat → FieldType))
abbrev x_ML : Type := List ((MethodName × ByteArray × Nat × Option FieldType) × Nat × Nat)
abbrev x_PL : Type := List (String × List (Nat × Instr))
def x_cl (CL : x_CL) : List vw_C := CL.map (fun q => q.1)
def x_m0 : MethodName × ByteArray × Nat × Option FieldType := (⟨"", "", ""⟩, ⟨#[]⟩, 0, none)
def x_Mf (ML : x_ML) : x_M := fun μ => (ML[μ]?.map (fun q => q.1)).getD x_m0
def x_d1 (t : FieldType) : Option Nat := match t with
  | .int => none
  | .boolean => none
  | _ => some 0
def x_dfl (ty : Nat → FieldType) (N : Nat) : List (Option Nat) := (List.range N).map (fun k => x_d1 (ty k))
def x_pool (PL : x_PL) (own : String) : List (Nat × Instr) := (PL.lookup own).getD []
def x_Ff (PL : x_PL) (ML : x_ML) (μ : Nat) (ix : Nat) : Option Instr := (x_pool PL (x_Mf ML μ).1.cls).lookup ix
/-- how a field is written -/
def x_gp1 (CL : x_CL) (own name : String) (i : Instr) : Option Instr := match i with
  | .invokeinterface ci k => match CL[ci]? with
    | some (r, ty) => if k < r.2.2 ∧ k < 1000 ∧ ((r.2.1 k).2.2.2 = false ∨ (name = "<init>" ∧ (r.2.1 k).1 = own)) then (match ty k with
      | .int => some (.multianewarray ci k)
      | .boolean => some (.multianewarray ci (k + 1000))
      | .object _ => some (.multianewarray ci (k + 2000))
      | .array _ => some (.multianewarray ci (k + 2000))
      | _ => none) else none
    | none => none
  | _ => none
def x_Gf (CL : x_CL) (PL : x_PL) (ML : x_ML) (μ : Nat) (ix : Nat) : Option Instr := match x_Ff PL ML μ ix with
  | some i => x_gp1 CL (x_Mf ML μ).1.cls (x_Mf ML μ).1.name i
  | none => none
def x_Ef (CL : x_CL) (ML : x_ML) (TB : List x_R) : x_E := (fun ci => match CL[ci]? with | some (r, ty) => x_dfl ty r.2.2 | none => [], fun μ => (ML[μ]?.map (fun q => q.2)).getD (0, 0), fun μ => (x_Mf ML μ).2.2.1, fun μ => x_cd (TB[μ]?.getD []))
/-- the words that a method needs that is called -/
def x_nm (ML : x_ML) (μ : Nat) : List Cond := [.code (x_Mf ML μ).1 (x_Mf ML μ).2.1 (x_Mf ML μ).2.2.1 (x_Mf ML μ).2.2.2, .initialized (x_Mf ML μ).1.cls]
def x_ne (X : x_X) (ML : x_ML) (own : String) (ix μ : Nat) : List Cond := if X.2.2.2.2.1.any (fun r => decide (r.1 = own) && decide (r.2.1 = ix) && decide (r.2.2.1 = (x_Mf ML μ).1)) then [] else [.methodLink own ix (x_Mf ML μ).1]
/-- the words that a constant needs -/
def x_need (CL : x_CL) (X : x_X) (ML : x_ML) (own : String) (ix : Nat) (i : Instr) : List Cond := match i with
  | .iconst v => [.constant own ix (Int32.ofInt v)]
  | .jsr v => [.constantLong own ix (Int64.ofInt v)]
  | .invokeinterface ci k => match CL[ci]? with
    | some (r, _) => [.fieldLink own ix (r.2.1 k).1 (r.2.1 k).2.1 (r.2.1 k).2.2.1]
    | none => []
  | .pop => [.methodLink own ix Lib.objectInit, .instanceMethod Lib.objectInit, .code Lib.objectInit ⟨#[0xb1]⟩ 1 none]
  | .invokedynamic 0 => [.methodLink own ix Lib.Math.max.name, .static Lib.Math.max.name, .initialized "java/lang/Math", .code Lib.Math.max.name Lib.Math.max.code 2 (some .int)]
  | .invokedynamic 1 => [.methodLink own ix Lib.Math.min.name, .static Lib.Math.min.name, .initialized "java/lang/Math", .code Lib.Math.min.name Lib.Math.min.code 2 (some .int)]
  | .invokedynamic 2 => [.methodLink own ix arraycopyName, .native arraycopyName, .static arraycopyName, .initialized "java/lang/System"]
  | .new ci => match CL[ci]? with
    | some (r, _) => [.classLink own ix r.1, .instantiable r.1 r.2.2, .initialized r.1]
    | none => []
  | .invokevirtual μ => x_ne X ML own ix μ ++ [.instanceMethod (x_Mf ML μ).1, .selects (x_Mf ML μ).1.cls (x_Mf ML μ).1 (x_Mf ML μ).1]
  | .invokestatic μ => x_ne X ML own ix μ ++ [.static (x_Mf ML μ).1]
  | .invokespecial μ => x_ne X ML own ix μ ++ [.instanceMethod (x_Mf ML μ).1]
  | .checkcast μ => [.methodLink own ix (x_Mf ML μ).1, .instanceMethod (x_Mf ML μ).1, .selects (x_Mf ML μ).1.cls (x_Mf ML μ).1 (x_Mf ML μ).1]
  | _ => []
/-- the rest that a constant needs -/
def x_mck (MU : List Nat) (ML : x_ML) (μ : Nat) : Bool := decide (μ ∈ MU) && decide ((x_Mf ML μ).1.cls ≠ "java/lang/invoke/MethodHandle") && decide ((x_Mf ML μ).1.cls ≠ "java/lang/invoke/VarHandle") && decide ((parseMethodDescriptor (x_Mf ML μ).1.desc).map (fun d => d.parameters.length) = some ((ML[μ]?.map (fun q => q.2)).getD (0, 0)).1) && decide ((x_Mf ML μ).2.2.1 ≤ 80)
def x_chk (MU : List Nat) (CL : x_CL) (X : x_X) (ML : x_ML) (own : String) (ix : Nat) (i : Instr) : Bool := match i with
  | .iconst _ => true
  | .jsr _ => true
  | .ldc j => X.1.any (fun r => decide (r.1 = own) && decide (r.2.1 = ix) && decide (r.2.2.2 = j))
  | .invokeinterface ci k => match CL[ci]? with
    | some (r, _) => decide (k < r.2.2)
    | none => false
  | .pop => true
  | .invokedynamic b => decide (b < 3)
  | .new ci => match CL[ci]? with
    | some _ => true
    | none => false
  | .invokevirtual μ => x_mck MU ML μ && (match CL[((ML[μ]?.map (fun q => q.2)).getD (0, 0)).2]? with
    | some (r, _) => decide (r.1 = (x_Mf ML μ).1.cls)
    | none => false)
  | .invokestatic μ => x_mck MU ML μ
  | .invokespecial μ => x_mck MU ML μ && decide ((x_Mf ML μ).1.name = "<init>") && decide ((x_Mf ML μ).2.2.2 = none)
  | .checkcast μ => x_mck MU ML μ && decide ((x_Mf ML μ).1.cls = "java/lang/String") && decide (2 ≤ X.2.1)
  | _ => false
/-- the words of all constants, of the classes' fields, of arrays -/
def x_all (MU : List Nat) (CL : x_CL) (X : x_X) (ML : x_ML) (PL : x_PL) : List Cond := ([.arrayClass .int, .arrayClass .boolean, .arrayClass .long] ++ MU.flatMap (x_nm ML)) ++ CL.flatMap (fun q => u_ws q.1.1 q.1.2.1 q.1.2.2) ++ PL.flatMap (fun q => q.2.flatMap (fun r => x_need CL X ML q.1 r.1 r.2))
def x_clk (CL : x_CL) : Prop := ∀ q ∈ CL, (∀ k, k < q.1.2.2 → parseFieldDescriptor (q.1.2.1 k).2.2.1 = some (q.2 k)) ∧ (∀ a, a < q.1.2.2 → ∀ b, b < q.1.2.2 → a ≠ b → (q.1.2.1 a).2.1 ≠ (q.1.2.1 b).2.1) ∧ ∀ k, k < q.1.2.2 → (q.2 k = .int ∨ q.2 k = .boolean) ∨ ((∃ n, q.2 k = FieldType.object n) ∨ ∃ t, q.2 k = FieldType.array t)
/-- a method's table against its constants; the decoding is checked apart -/
def x_tck (F Gp : Nat → Option Instr) (ret : Option FieldType) (tab : x_R) : Bool := (List.range tab.length).all (fun j => match tab[j]? with
  | some r => x_rv F Gp ret (x_pc tab) r.1 r.2.1 r.2.2.1 r.2.2.2 && (decide (tab.length ≤ j + 1) || decide (x_pc tab (j + 1) = r.1 + r.2.2.1))
  | none => true)
def x_dck (cc : ByteArray) (tab : x_R) : Bool := tab.all (fun r => decide (decode cc r.1 = .ok (r.2.1, r.2.2.1)))
section X12
variable {CL : x_CL} {X : x_X} {ML : x_ML} {PL : x_PL} {TB : List x_R} {MU : List Nat}
theorem x_look {α : Type} {l : List (Nat × α)} {k : Nat} {v : α} (h : l.lookup k = some v) : (k, v) ∈ l := by
  induction l with
  | nil => simp at h
  | cons a l ih =>
    obtain ⟨b, w⟩ := a
    rw [List.lookup_cons] at h
    cases hk : k == b with
    | true =>
      rw [hk] at h
      simp only [beq_iff_eq] at hk
      cases h
      subst hk
      exact List.mem_cons_self
    | false =>
      rw [hk] at h
      exact List.mem_cons_of_mem _ (ih h)
theorem x_lookS {α : Type} {l : List (String × α)} {k : String} {v : α} (h : l.lookup k = some v) : (k, v) ∈ l := by
  induction l with
  | nil => simp at h
  | cons a l ih =>
    obtain ⟨b, w⟩ := a
    rw [List.lookup_cons] at h
    cases hk : k == b with
    | true =>
      rw [hk] at h
      simp only [beq_iff_eq] at hk
      cases h
      subst hk
      exact List.mem_cons_self
    | false =>
      rw [hk] at h
      exact List.mem_cons_of_mem _ (ih h)
theorem x_F_in {μ ix : Nat} {i : Instr} (h : x_Ff PL ML μ ix = some i) : ∃ q ∈ PL, q.1 = (x_Mf ML μ).1.cls ∧ (ix, i) ∈ q.2 := by
  unfold x_Ff x_pool at h
  cases hl : PL.lookup (x_Mf ML μ).1.cls with
  | none => rw [hl] at h; simp at h
  | some pl =>
    rw [hl] at h
    exact ⟨_, x_lookS hl, rfl, x_look h⟩
theorem x_need_in {q : String × List (Nat × Instr)} {r : Nat × Instr} (hq : q ∈ PL) (hr : r ∈ q.2) : ∀ w ∈ x_need CL X ML q.1 r.1 r.2, w ∈ x_all MU CL X ML PL := by
  intro w hw
  unfold x_all
  exact List.mem_append_right _ (List.mem_flatMap.mpr ⟨q, hq, List.mem_flatMap.mpr ⟨r, hr, hw⟩⟩)
theorem x_cl_at {ci : Nat} {r : vw_C} {ty : Nat → FieldType} (h : CL[ci]? = some (r, ty)) : (x_cl CL)[ci]? = some r := by simp [x_cl, h]
theorem x_ws_in {q : vw_C × (Nat → FieldType)} (hq : q ∈ CL) : ∀ w ∈ u_ws q.1.1 q.1.2.1 q.1.2.2, w ∈ x_all MU CL X ML PL := by
  intro w hw
  unfold x_all
  exact List.mem_append_left _ (List.mem_append_right _ (List.mem_flatMap.mpr ⟨q, hq, hw⟩))
theorem x_nm_in {μ : Nat} (h : μ ∈ MU) : ∀ w ∈ x_nm ML μ, w ∈ x_all MU CL X ML PL := by
  intro w hw
  unfold x_all
  exact List.mem_append_left _ (List.mem_append_left _ (List.mem_append_right _ (List.mem_flatMap.mpr ⟨μ, h, hw⟩)))
theorem x_mk_of {μ : Nat} (h : x_mck MU ML μ = true) : x_mk (x_all MU CL X ML PL) (x_Ef CL ML TB) (x_Mf ML) μ := by
  simp only [x_mck, Bool.and_eq_true, decide_eq_true_eq] at h
  obtain ⟨⟨⟨⟨h0, h1⟩, h2⟩, h3⟩, h4⟩ := h
  exact ⟨x_nm_in h0 _ (by simp [x_nm]), x_nm_in h0 _ (by simp [x_nm]), ⟨h1, h2, h3⟩, h4⟩
theorem x_ne_of {Ts : List Cond} {own : String} {ix μ : Nat} (hw : ∀ w ∈ x_ne X ML own ix μ, w ∈ Ts) : Cond.methodLink own ix (x_Mf ML μ).1 ∈ Ts ∨ ∃ host, (own, ix, (x_Mf ML μ).1, host) ∈ X.2.2.2.2.1 := by
  unfold x_ne at hw
  split at hw
  · rename_i h
    obtain ⟨r, hr, h2⟩ := List.any_eq_true.mp h
    simp only [Bool.and_eq_true, decide_eq_true_eq] at h2
    obtain ⟨⟨h3, h4⟩, h5⟩ := h2
    obtain ⟨a, b, c, d⟩ := r
    simp only at h3 h4 h5
    subst h3; subst h4; subst h5
    exact Or.inr ⟨d, hr⟩
  · exact Or.inl (hw _ (by simp))
end X12
