/-! ===== lines of code ===== -/
/-- lines, one behind another -/
def flt1 : Lw → List Int
  | [] => []
  | q :: L => q.1 ++ (q.2 ++ flt1 L)
def pos1 (p : Int) : Lw → List Int
  | [] => []
  | q :: L => (p + q.1.length) :: (p + q.1.length + q.2.length) :: pos1 (p + q.1.length + q.2.length) L
theorem flt1_app : ∀ (L : Lw) (q : List Int × List Int), flt1 (L ++ [q]) = flt1 L ++ (q.1 ++ q.2)
  | [], q => by show q.1 ++ (q.2 ++ []) = _; rw [List.append_nil]; rfl
  | y :: L, q => by
    show y.1 ++ (y.2 ++ flt1 (L ++ [q])) = (y.1 ++ (y.2 ++ flt1 L)) ++ (q.1 ++ q.2)
    rw [flt1_app L q]; simp only [List.append_assoc]
theorem pos1_app : ∀ (L : Lw) (q : List Int × List Int) (p : Int), pos1 p (L ++ [q]) = pos1 p L ++ [p + (flt1 L).length + q.1.length] ++ [p + (flt1 L).length + q.1.length + q.2.length]
  | [], q, p => by
    show [p + q.1.length, p + q.1.length + q.2.length] = _
    show _ = [] ++ [p + ((0 : Nat) : Int) + q.1.length] ++ [p + ((0 : Nat) : Int) + q.1.length + q.2.length]
    rw [show p + ((0 : Nat) : Int) = p by omega]; rfl
  | y :: L, q, p => by
    show _ :: _ :: pos1 _ (L ++ [q]) = _
    rw [pos1_app L q]
    have e : p + ((flt1 (y :: L)).length : Int) = p + y.1.length + y.2.length + (flt1 L).length := by
      show p + ((y.1 ++ (y.2 ++ flt1 L)).length : Int) = _
      rw [List.length_append, List.length_append]; omega
    rw [e]; rfl
theorem pos1_len : ∀ (L : Lw) (p : Int), (pos1 p L).length = 2 * L.length
  | [], _ => rfl
  | y :: L, p => by show (pos1 _ L).length + 1 + 1 = 2 * (L.length + 1); rw [pos1_len L]; omega
/-- the code so far: lines that are done, what a line pays, what is being read -/
def JP (b : Bool) (C W D : List Int) : Prop := ∃ (L : Lw) (E : List Int), lwok L ∧ C = flt1 L ++ (E ++ D) ∧ (b = false → E = [] ∧ W = pos1 0 L) ∧ (b = true → (∃ t, t ≤ 2 ∧ tyl E [] = some [t]) ∧ W = pos1 0 L ++ [((flt1 L).length : Int) + E.length])
theorem JP_s {b : Bool} {C W D : List Int} {x : Int} (h : JP b C W D) : JP b (C ++ [x]) W (D ++ [x]) := by
  obtain ⟨L, E, h1, h2, h3, h4⟩ := h
  exact ⟨L, E, h1, by rw [h2]; simp only [List.append_assoc], h3, h4⟩
theorem JP_pay {C W D : List Int} {t : Int} (h : JP false C W D) (ht : t ≤ 2) (hD : tyl D [] = some [t]) : JP true C (W ++ [(C.length : Int)]) [] := by
  obtain ⟨L, E, h1, h2, h3, -⟩ := h
  obtain ⟨rfl, rfl⟩ := h3 rfl
  refine ⟨L, D, h1, by rw [h2, List.append_nil]; rfl, fun e => (by cases e), fun _ => ⟨⟨t, ht, hD⟩, ?_⟩⟩
  rw [h2, List.length_append, List.nil_append]
  congr 2
theorem JP_line {C W D : List Int} (h : JP true C W D) (hD : D = [] ∨ tyl D [] = some [3]) : JP false C (W ++ [(C.length : Int)]) [] := by
  obtain ⟨L, E, h1, h2, -, h4⟩ := h
  obtain ⟨h5, rfl⟩ := h4 rfl
  refine ⟨L ++ [(E, D)], [], ?_, ?_, fun _ => ⟨rfl, ?_⟩, fun e => (by cases e)⟩
  · intro q hq
    rcases List.mem_append.mp hq with h | h
    · exact h1 q h
    · rw [List.mem_singleton.mp h]; exact ⟨h5, hD⟩
  · rw [h2, flt1_app]; simp
  · rw [pos1_app, h2, List.length_append, List.length_append]
    have e1 : (0 : Int) + (flt1 L).length + E.length = (flt1 L).length + E.length := by omega
    have e2 : (0 : Int) + (flt1 L).length + E.length + D.length = (((flt1 L).length + (E.length + D.length) : Nat) : Int) := by omega
    show _ = pos1 0 L ++ [(0 : Int) + (flt1 L).length + E.length] ++ [(0 : Int) + (flt1 L).length + E.length + D.length]
    rw [e2, e1]
theorem tyl_s {D ts : List Int} {x : Int} (h : tyl D [] = some ts) : tyl (D ++ [x]) [] = tst x ts := by rw [tyl_app, h]; rfl
theorem tn {x : Int} {ts : List Int} (h0 : 0 ≤ x) (h1 : x ≤ 9999) (hl : ts.length < 64) : tst x ts = some ((if x = 0 then 1 else 0) :: ts) := by unfold tst; rw [if_pos h0, if_pos ⟨h1, hl⟩]
theorem ta {x : Int} {ts : List Int} (h0 : x < 0) (h1 : -9 ≤ x) (hl : ts.length < 64) : tst x ts = some (1 :: ts) := by unfold tst; rw [if_neg (by omega), if_pos h1, if_pos hl]
theorem t12 {b a : Int} {r : List Int} (hb : b ≤ 1) (ha : a ≤ 1) : tst (-12) (b :: a :: r) = some (1 :: r) := by
  show (if b ≤ 1 ∧ a ≤ 1 then some ((1 : Int) :: r) else none) = _
  rw [if_pos ⟨hb, ha⟩]
theorem t13 {b a : Int} {r : List Int} (hb : b = 0) (ha : a ≤ 1) : tst (-13) (b :: a :: r) = some (1 :: r) := by
  show (if b = 0 ∧ a ≤ 1 then some ((1 : Int) :: r) else none) = _
  rw [if_pos ⟨hb, ha⟩]
theorem t10 {c b a : Int} {r : List Int} (hc : c = -10 ∨ c = -11) (hb : b ≤ 1) (ha : a ≤ 2) : tst c (b :: a :: r) = some (2 :: r) := by
  rcases hc with e | e <;> subst e <;> (show (if b ≤ 1 ∧ a ≤ 2 then some ((2 : Int) :: r) else none) = _; rw [if_pos ⟨hb, ha⟩])
theorem t14 {c b a : Int} {r : List Int} (hc : c = -14 ∨ c = -15 ∨ c = -16) (hb : b ≤ 2) (ha : a ≤ 2) : tst c (b :: a :: r) = some (3 :: r) := by
  rcases hc with e | e | e <;> subst e <;> (show (if b ≤ 2 ∧ a ≤ 2 then some ((3 : Int) :: r) else none) = _; rw [if_pos ⟨hb, ha⟩])
theorem t17 {c : Int} {r : List Int} (hc : c = -17 ∨ c = -18) : tst c (3 :: 3 :: r) = some (3 :: r) := by rcases hc with e | e <;> subst e <;> rfl
theorem t19 {r : List Int} : tst (-19) (3 :: r) = some (3 :: r) := rfl
