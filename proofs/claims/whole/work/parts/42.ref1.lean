theorem b_t {c : Bool} (h : ¬ c = false) : c = true := by cases c; exact absurd rfl h; rfl
theorem nlt {x y : Int32} : ¬ x < y ↔ y ≤ x := by rw [Int32.lt_iff_toInt_lt, Int32.le_iff_toInt_le]; omega
theorem nle {x y : Int32} : ¬ x ≤ y ↔ y < x := by rw [Int32.lt_iff_toInt_lt, Int32.le_iff_toInt_le]; omega
theorem c_f {c : ClassFile.Cond} {x y : Int32} {p : Prop} (h : x_cmp c x y = true ↔ p) (hf : x_cmp c x y = false) : ¬ p := fun hp => by rw [h.mpr hp] at hf; cases hf
theorem c_no {c : ClassFile.Cond} {x y : Int32} {p : Prop} (h : x_cmp c x y = true ↔ p) (hp : ¬ p) : x_cmp c x y = false := by
  cases hh : x_cmp c x y with
  | false => rfl
  | true => exact absurd (h.mp hh) hp
section R1
variable (d : Nat) (f : Nat → Nat → Int32) (g : Nat → Nat → Int64)
set_option maxRecDepth 100000 in
/-- isIn -/
theorem r_isIn (v lo hi : Int32) : pe (d + 1) 1 [.ref 79, .int v, .int lo, .int hi] (kS, f, g) = some (some (.int (if lo ≤ v ∧ v ≤ hi then 1 else 0)), (kS, f, g)) := by
  refine e_in rfl (Nat.le_of_ble_eq_true rfl) ?_
  refine e_if (fun h => ?_) (fun h => ?_)
  · rw [if_neg (fun h1 => nlt.mpr h1.1 (c_lt.mp h))]
    rfl
  · refine e_if (fun h2 => ?_) (fun h2 => ?_)
    · rw [if_neg (fun h1 => nlt.mpr h1.2 (c_gt.mp h2))]
      rfl
    · rw [if_pos ⟨nlt.mp (c_f c_lt h), nlt.mp (c_f c_gt h2)⟩]
      rfl
set_option maxRecDepth 100000 in
/-- isOneOf -/
theorem r_isOneOf (s : Int32) : pe (d + 1) 7 [.ref 79, .int s] (kS, f, g) = some (some (.int (if 0 ≤ s ∧ s < 29 then 1 else 0)), (kS, f, g)) := by
  refine e_in rfl (Nat.le_of_ble_eq_true rfl) ?_
  refine e_if (fun h => ?_) (fun h => ?_)
  · rw [if_neg (fun h1 => nlt.mpr h1.1 (c_lt.mp h))]
    rfl
  · refine e_if (fun h2 => ?_) (fun h2 => ?_)
    · rw [if_neg (fun h1 => nlt.mpr (c_ge.mp h2) h1.2)]
      rfl
    · rw [if_pos ⟨nlt.mp (c_f c_lt h), nle.mp (c_f c_ge h2)⟩]
      rfl
set_option maxRecDepth 100000 in
/-- isApprentice -/
theorem r_isApprentice (a : Int32) : pe (d + 1) 6 [.ref 79, .int a] (kS, f, g) = some (some (.int (if 0 ≤ a ∧ a < f 79 4 then 1 else 0)), (kS, f, g)) := by
  refine e_in rfl (Nat.le_of_ble_eq_true rfl) ?_
  refine e_if (fun h => ?_) (fun h => ?_)
  · rw [if_neg (fun h1 => nlt.mpr h1.1 (c_lt.mp h))]
    rfl
  · refine e_if (fun h2 => ?_) (fun h2 => ?_)
    · rw [if_neg (fun h1 => nlt.mpr (c_ge.mp h2) h1.2)]
      rfl
    · rw [if_pos ⟨nlt.mp (c_f c_lt h), nle.mp (c_f c_ge h2)⟩]
      rfl
set_option maxRecDepth 100000 in
/-- own -/
theorem r_own_no (s a : Int32) (h : ¬ ((0 ≤ s ∧ s < 29) ∧ (a = -1 ∨ (0 ≤ a ∧ a < f 79 4)))) : pe (d + 2) 9 [.ref 79, .int s, .int a] (kS, f, g) = some (some (.int 0), (kS, wr f 79 0 0, g)) := by
  refine e_in rfl (Nat.le_of_ble_eq_true rfl) ?_
  conv => lhs; whnf
  refine e_call (r_isOneOf d (wr f 79 0 0) g s) ?_
  by_cases hs : 0 ≤ s ∧ s < 29
  · rw [if_pos hs]
    refine e_f (c_no c_eq (fun e => h ⟨hs, Or.inl e⟩)) ?_
    conv => lhs; whnf
    refine e_call (r_isApprentice d (wr f 79 0 0) g a) ?_
    rw [if_neg (fun h2 => h ⟨hs, Or.inr ⟨h2.1, by simpa [wr_eq] using h2.2⟩⟩)]
    rfl
  · rw [if_neg hs]
    rfl
end R1
