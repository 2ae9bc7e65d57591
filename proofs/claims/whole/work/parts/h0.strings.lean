/-! ===== texts' own methods: what the machine does (WANTING) ===== -/
theorem k_so {l : Launch} : ∀ (μ : Nat) (vs : List Value) (T : x_T) (q : Option Value × x_T), kSO μ vs T = some q → x_mo T q.2 ∧ ∀ d, 8 ≤ d → x_C l (x_cl kCL) kX kTs (x_Mf kML) (d + 1) μ vs T q := sorry
