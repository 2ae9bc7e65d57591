/-! ===== what a text's reading leaves is well made ===== -/
def isC (x : Int) : Prop := x = 22 ∨ (9 ≤ x ∧ x ≤ 12)
def isB (x : Int) : Prop := x = 20 ∨ x = 21 ∨ (6 ≤ x ∧ x ≤ 8)
/-- what waits is in order -/
def okK : List Int → Prop
  | [] => True
  | x :: K => okK K ∧ (((x = 20 ∨ x = 22) ∧ K = []) ∨ ((x = 21 ∨ (6 ≤ x ∧ x ≤ 8)) ∧ isC (hdv K)) ∨ ((x = 2 ∨ x = 3) ∧ isB (hdv K)) ∨ ((x = 4 ∨ x = 5) ∧ (isB (hdv K) ∨ hdv K = 2 ∨ hdv K = 3)) ∨ ((x = 9 ∨ x = 12) ∧ isC (hdv K)) ∨ (x = 10 ∧ (hdv K = 22 ∨ hdv K = 11 ∨ hdv K = 12)) ∨ (x = 11 ∧ (hdv K = 22 ∨ hdv K = 12)))
/-- the types of the values that wait -/
def sh : List Int → List Int → Prop
  | [], ts => ts = []
  | x :: K, ts => if x = 2 ∨ x = 3 ∨ (6 ≤ x ∧ x ≤ 8) then (∃ t r, ts = t :: r ∧ t ≤ 2 ∧ sh K r) else if x = 4 ∨ x = 5 then (∃ t r, ts = t :: r ∧ t ≤ 1 ∧ sh K r) else if x = 10 ∨ x = 11 then (∃ r, ts = 3 :: r ∧ sh K r) else sh K ts
def bot : List Int → Bool
  | [] => false
  | x :: K => if x = 22 then true else if x = 20 then false else bot K
def lvK (x : Int) : Int := if x = 20 ∨ x = 22 ∨ x = 9 ∨ x = 12 then 0 else if x = 11 then 1 else if x = 10 ∨ x = 21 then 2 else if 6 ≤ x ∧ x ≤ 8 then 3 else if x = 2 ∨ x = 3 then 4 else 5
theorem lvK_r (x : Int) : 0 ≤ lvK x ∧ lvK x ≤ 5 := by unfold lvK; (repeat' split) <;> omega
theorem lvK_v (x : Int) : ((x = 20 ∨ x = 22 ∨ x = 9 ∨ x = 12) → lvK x = 0) ∧ (x = 11 → lvK x = 1) ∧ (x = 10 ∨ x = 21 → lvK x = 2) ∧ (6 ≤ x ∧ x ≤ 8 → lvK x = 3) ∧ (x = 2 ∨ x = 3 → lvK x = 4) ∧ (x = 4 ∨ x = 5 → lvK x = 5) := by unfold lvK; (repeat' split) <;> omega
theorem sh_2 {x : Int} {K ts : List Int} (h : x = 2 ∨ x = 3 ∨ (6 ≤ x ∧ x ≤ 8)) : sh (x :: K) ts ↔ ∃ t r, ts = t :: r ∧ t ≤ 2 ∧ sh K r := by rw [sh, if_pos h]
theorem sh_4 {x : Int} {K ts : List Int} (h : x = 4 ∨ x = 5) : sh (x :: K) ts ↔ ∃ t r, ts = t :: r ∧ t ≤ 1 ∧ sh K r := by rw [sh, if_neg (by omega), if_pos h]
theorem sh_10 {x : Int} {K ts : List Int} (h : x = 10 ∨ x = 11) : sh (x :: K) ts ↔ ∃ r, ts = 3 :: r ∧ sh K r := by rw [sh, if_neg (by omega), if_neg (by omega), if_pos h]
theorem sh_n {x : Int} {K ts : List Int} (h : 20 ≤ x ∨ x = 9 ∨ x = 12) : sh (x :: K) ts ↔ sh K ts := by rw [sh, if_neg (by omega), if_neg (by omega), if_neg (by omega)]
theorem sh_len : ∀ {K ts : List Int}, okK K → sh K ts → (ts.length : Int) ≤ 2 * opn K + lvK (hdv K)
  | [], ts, _, h => by rw [show ts = [] from h]; have := lvK_r 0; show (0 : Int) ≤ 2 * 0 + lvK 0; omega
  | x :: K, ts, ho, h => by
    obtain ⟨ho, hx⟩ := ho
    have hl := lvK_v (hdv K)
    have hlx := lvK_v x
    show _ ≤ 2 * opn (x :: K) + lvK x
    rw [opn]
    unfold isC isB at hx
    by_cases c1 : x = 2 ∨ x = 3 ∨ (6 ≤ x ∧ x ≤ 8)
    · obtain ⟨t, r, rfl, -, h2⟩ := (sh_2 c1).mp h
      have ih := sh_len ho h2
      rw [List.length_cons, if_neg (by omega)]; omega
    · by_cases c2 : x = 4 ∨ x = 5
      · obtain ⟨t, r, rfl, -, h2⟩ := (sh_4 c2).mp h
        have ih := sh_len ho h2
        rw [List.length_cons, if_neg (by omega)]; omega
      · by_cases c3 : x = 10 ∨ x = 11
        · obtain ⟨r, rfl, h2⟩ := (sh_10 c3).mp h
          have ih := sh_len ho h2
          rw [List.length_cons, if_neg (by omega)]; omega
        · have h2 := (sh_n (by omega)).mp h
          by_cases c4 : x = 20 ∨ x = 22
          · have hK : K = [] := by
              rcases hx with q | q | q | q | q | q | q <;> first | exact q.2 | (exfalso; omega)
            subst hK
            rw [show ts = [] from h2, if_neg (by omega)]
            show (0 : Int) ≤ _
            have : opn [] = 0 := rfl
            omega
          · have ih := sh_len ho h2
            have hc : hdv K = 22 ∨ (9 ≤ hdv K ∧ hdv K ≤ 12) := by omega
            by_cases c5 : x = 9 ∨ x = 12
            · rw [if_pos c5]; omega
            · rw [if_neg c5]; omega
