/-! ===== the pure side: how x_P is run by hand ===== -/
/-- a method of this claim, d calls deep -/
noncomputable def pe (d μ : Nat) (vs : List Value) (T : x_T) : x_Z := x_P kE kSO 700 4000 d μ vs T
/-- a place in the method μ: k steps left, n turns of loops left -/
noncomputable def ze (d μ n k : Nat) (rest : List Instr) (lv : x_L) (st : List Value) (T : x_T) : x_Z := x_ev kE x_nx (pe d) (x_lp kE x_nx (pe d) (kE.2.2.2 μ) 700 n) (kE.2.2.2 μ) k rest lv st T
/-- a loop's head j of the method μ -/
noncomputable def zl (d μ n j : Nat) (lv : x_L) (T : x_T) : x_Z := x_lp kE x_nx (pe d) (kE.2.2.2 μ) 700 n j lv T
theorem e_in {d μ : Nat} {vs : List Value} {T : x_T} {r : x_Z} (h1 : Nat.ble 1000 μ = false) (h2 : (x_ar vs).length ≤ kE.2.2.1 μ) (k : ze d μ 4000 700 (kE.2.2.2 μ) (x_ar vs ++ List.replicate (kE.2.2.1 μ - (x_ar vs).length) none) [] T = r) : pe (d + 1) μ vs T = r := by
  unfold pe
  rw [x_P, h1, if_neg (by decide), if_pos h2]
  exact k
theorem e_lp {d μ n j : Nat} {lv : x_L} {T : x_T} {r : x_Z} (k : ze d μ n 700 ((kE.2.2.2 μ).drop j) lv [] T = r) : zl d μ (n + 1) j lv T = r := k
theorem e_if {c : Bool} {a b r : x_Z} (ht : c = true → a = r) (hf : c = false → b = r) : (if c = true then a else b) = r := by
  cases c
  · exact hf rfl
  · exact ht rfl
theorem e_t {c : Bool} {a b r : x_Z} (h : c = true) (k : a = r) : (if c = true then a else b) = r := by rw [if_pos h]; exact k
theorem e_f {c : Bool} {a b r : x_Z} (h : c = false) (k : b = r) : (if c = true then a else b) = r := by rw [h, if_neg (by decide)]; exact k
theorem e_P {c : Prop} {i : Decidable c} {a b r : x_Z} (h : c) (k : a = r) : (if c then a else b) = r := by rw [if_pos h]; exact k
theorem e_N {c : Prop} {i : Decidable c} {a b r : x_Z} (h : ¬ c) (k : b = r) : (if c then a else b) = r := by rw [if_neg h]; exact k
/-- behind a call; ahead of it: conv => lhs; whnf -/
theorem e_call {o o' : x_Z} {F : Option Value × x_T → x_Z} {p : Option Value × x_T} {r : x_Z} (h : o = some p) (k : F p = r) (ho : o' = o := by rfl) : Option.rec (motive := fun _ => x_Z) none F o' = r := by rw [ho, h]; exact k
theorem e_g {b : Bool} {k r : x_Z} (h : b = true) (k' : k = r) : x_g b k = r := by rw [h]; exact k'
/-- an int of a cell is written -/
def wr (f : Nat → Nat → Int32) (c k : Nat) (v : Int32) : Nat → Nat → Int32 := va_up f c (upd (f c) k v)
theorem wr_eq (f : Nat → Nat → Int32) (c k : Nat) (v : Int32) (c' k' : Nat) : wr f c k v c' k' = if c' = c ∧ k' = k then v else f c' k' := by
  unfold wr va_up
  by_cases h : c' = c
  · subst h
    rw [if_pos rfl]
    unfold upd
    by_cases h2 : k' = k
    · rw [if_pos h2, if_pos ⟨rfl, h2⟩]
    · rw [if_neg h2, if_neg (fun h => h2 h.2)]
  · rw [if_neg h, if_neg (fun h2 => h h2.1)]
theorem wr_s (f : Nat → Nat → Int32) (c k : Nat) (v : Int32) : wr f c k v c k = v := by rw [wr_eq, if_pos ⟨rfl, rfl⟩]
theorem wr_c {f : Nat → Nat → Int32} {c k c' k' : Nat} {v : Int32} (h : c' ≠ c) : wr f c k v c' k' = f c' k' := by rw [wr_eq, if_neg (fun h2 => h h2.1)]
theorem wr_k {f : Nat → Nat → Int32} {c k c' k' : Nat} {v : Int32} (h : k' ≠ k) : wr f c k v c' k' = f c' k' := by rw [wr_eq, if_neg (fun h2 => h h2.2)]
theorem x_si_wr (S : List x_S) (f : Nat → Nat → Int32) (g : Nat → Nat → Int64) (c k : Nat) (v : Int32) : x_si (S, f, g) c k v = (S, wr f c k v, g) := rfl
theorem c_lt {x y : Int32} : x_cmp .lt x y = true ↔ x < y := by simp [x_cmp]
theorem c_ge {x y : Int32} : x_cmp .ge x y = true ↔ y ≤ x := by simp [x_cmp]
theorem c_gt {x y : Int32} : x_cmp .gt x y = true ↔ y < x := by simp [x_cmp]
theorem c_le {x y : Int32} : x_cmp .le x y = true ↔ x ≤ y := by simp [x_cmp]
theorem c_eq {x y : Int32} : x_cmp .eq x y = true ↔ x = y := by simp [x_cmp]
theorem c_ne {x y : Int32} : x_cmp .ne x y = true ↔ ¬ x = y := by simp [x_cmp]
