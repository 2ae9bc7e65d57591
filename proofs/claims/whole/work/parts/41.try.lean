set_option maxRecDepth 100000 in
theorem t_state1 (d : Nat) (f : Nat → Nat → Int32) (g : Nat → Nat → Int64) (v : Int32) : ∃ r, x_P kE kSO 700 4000 (d + 1) 4 [.ref 79, .int v] (kS, f, g) = some r := ⟨_, rfl⟩
