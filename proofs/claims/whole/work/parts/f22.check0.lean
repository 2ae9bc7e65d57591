def x_fk (t : FieldType) : Bool := match t with
  | .int => true
  | .boolean => true
  | .object _ => true
  | .array _ => true
  | _ => false
theorem x_fk_of {t : FieldType} (h : x_fk t = true) : (t = .int ∨ t = .boolean) ∨ ((∃ n, t = FieldType.object n) ∨ ∃ u, t = FieldType.array u) := by
  cases t with
  | int => exact Or.inl (Or.inl rfl)
  | boolean => exact Or.inl (Or.inr rfl)
  | object n => exact Or.inr (Or.inl ⟨n, rfl⟩)
  | array u => exact Or.inr (Or.inr ⟨u, rfl⟩)
  | _ => simp [x_fk] at h
def x_ck1 (q : vw_C × (Nat → FieldType)) : Bool := (List.range q.1.2.2).all (fun k => decide (parseFieldDescriptor (q.1.2.1 k).2.2.1 = some (q.2 k)) && x_fk (q.2 k) && (List.range q.1.2.2).all (fun b => decide (k = b) || decide ((q.1.2.1 k).2.1 ≠ (q.1.2.1 b).2.1)))
theorem x_clk_of {CL : x_CL} (h : CL.all x_ck1 = true) : x_clk CL := by
  intro q hq
  have h1 := List.all_eq_true.mp h q hq
  unfold x_ck1 at h1
  have h2 : ∀ k, k < q.1.2.2 → _ := fun k hk => List.all_eq_true.mp h1 k (List.mem_range.mpr hk)
  simp only [Bool.and_eq_true, decide_eq_true_eq] at h2
  refine ⟨fun k hk => (h2 k hk).1.1, fun a ha b hb hab => ?_, fun k hk => x_fk_of (h2 k hk).1.2⟩
  have h3 := List.all_eq_true.mp (h2 a ha).2 b (List.mem_range.mpr hb)
  simp only [Bool.or_eq_true, decide_eq_true_eq] at h3
  rcases h3 with h3 | h3
  · exact absurd h3 hab
  · exact h3
theorem k_clk : x_clk kCL := x_clk_of (by decide +kernel)
theorem k_chk : kPL.all (fun q => q.2.all (fun r => x_chk kMU kCL kX kML q.1 r.1 r.2)) = true := by decide +kernel
