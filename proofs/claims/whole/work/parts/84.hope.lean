/-! ===== signs that can't be printed do alike; signs that are hopeless ===== -/
section UN
variable {ab : Int → Bool} {ow : Int → Int} {day : Int} {w : Lw} {r r' : Int → Int} {n i a : Int}
theorem un_isL (h : ∀ k, 0 ≤ k → k < n → ¬ k = i → r k = r' k) (hl : r i < 26 ↔ r' i < 26) : isL r n = isL r' n := by
  funext k
  by_cases hk : 0 ≤ k ∧ k < n
  · unfold isL
    by_cases e : k = i
    · rw [e]
      have : (0 ≤ i ∧ i < n ∧ r i < 26) ↔ (0 ≤ i ∧ i < n ∧ r' i < 26) := by rw [hl]
      exact decide_eq_decide.mpr this
    · rw [h k hk.1 hk.2 e]
  · rw [isL_f.mpr (fun e => hk ⟨e.1, e.2.1⟩), isL_f.mpr (fun e => hk ⟨e.1, e.2.1⟩)]
theorem un_ab (h : ∀ k, 0 ≤ k → k < n → ¬ k = i → r k = r' k) (h0 : ab (r i) = false) (h1 : ab (r' i) = false) : ∀ k, 0 ≤ k → k < n → ab (r k) = ab (r' k) := by
  intro k k0 k1
  by_cases e : k = i
  · rw [e, h0, h1]
  · rw [h k k0 k1 e]
theorem un_lw (h : ∀ k, 0 ≤ k → k < n → ¬ k = i → r k = r' k) (hl : r i < 26 ↔ r' i < 26) (h0 : ab (r i) = false) (h1 : ab (r' i) = false) : ∀ m : Nat, lwI ab r n m = lwI ab r' n m := by
  intro m
  induction m with
  | zero => rfl
  | succ m ih =>
    rw [show (((m + 1 : Nat)) : Int) = (m : Int) + 1 by omega]
    have e0 : isL r n (m : Int) = isL r' n (m : Int) := by rw [un_isL h hl]
    cases e : isL r n (m : Int) with
    | true =>
      have e2 := isL_t.mp e
      rw [lwI_t (by omega) e, lwI_t (by omega) (by rw [← e0]; exact e), ih, un_ab h h0 h1 m (by omega) (by omega)]
    | false => rw [lwI_f (by omega) e, lwI_f (by omega) (by rw [← e0]; exact e)]
theorem un_rr (h : ∀ k, 0 ≤ k → k < n → ¬ k = i → r k = r' k) (hl : r i < 26 ↔ r' i < 26) (h0 : ab (r i) = false) (h1 : ab (r' i) = false) : ∀ (m : Nat) (q : Int), n - q = m → rrI ab r n q = rrI ab r' n q := by
  intro m
  induction m with
  | zero => intro q hq; rw [rrI_f (isL_f.mpr (by omega)), rrI_f (isL_f.mpr (by omega))]
  | succ m ih =>
    intro q hq
    have e0 : isL r n q = isL r' n q := by rw [un_isL h hl]
    cases e : isL r n q with
    | true =>
      have e2 := isL_t.mp e
      have e1 : isL r' n q = true := by rw [← e0]; exact e
      rw [rrI_t e, rrI_t e1, ih (q + 1) (by omega), un_ab h h0 h1 q (by omega) (by omega)]
    | false => rw [rrI_f e, rrI_f (by rw [← e0]; exact e)]
theorem en_un (h : ∀ k, 0 ≤ k → k < n → ¬ k = i → r k = r' k) (hl : r i < 26 ↔ r' i < 26) (h0 : ab (r i) = false) (h1 : ab (r' i) = false) : enI ab ow day w r n a = enI ab ow day w r' n a := by
  rw [enI_eq, enI_eq]
  refine sI_congr (fun k k0 k1 => ?_)
  by_cases e : k = i
  · rw [e, enH_f h0, enH_f h1]
  · have ek := h k k0 k1 e
    cases ea : ab (r k) with
    | false => rw [enH_f ea, enH_f (by rw [← ek]; exact ea)]
    | true =>
      have n1 : ¬ r i = r k := fun q => by rw [q, ea] at h0; cases h0
      have n2 : ¬ r' i = r k := fun q => by rw [q, ea] at h1; cases h1
      have e2 : lgI ab r n k = lgI ab r' n k := by
        have q := un_lw (ab := ab) h hl h0 h1 k.toNat
        rw [show ((k.toNat : Nat) : Int) = k by omega] at q
        unfold lgI
        rw [un_isL h hl, q, un_rr h hl h0 h1 (n - k).toNat k (by omega)]
      have e3 : usI r k = usI r' k := by
        unfold usI
        rw [← ek]
        refine cI_congr (fun q q0 q1 => ?_)
        by_cases eq : q = i
        · rw [eq, decide_eq_false n1, decide_eq_false n2]
        · rw [h q q0 (by omega) eq]
      have e4 : lfI ab r k = lfI ab r' k := by
        unfold lfI
        by_cases hi : 0 < k
        · by_cases e5 : k - 1 = i
          · rw [e5, if_neg (fun q => by rw [h0] at q; cases q.2), if_neg (fun q => by rw [h1] at q; cases q.2)]
          · rw [h (k - 1) (by omega) (by omega) e5]
        · rw [if_neg (fun q => hi q.1), if_neg (fun q => hi q.1)]
      have e5 : fsI r n k = fsI r' n k := by unfold fsI; rw [un_isL h hl]
      have : fct ab ow day r n k = fct ab ow day r' n k := by
        funext q
        unfold fct
        rw [ek, e2, e3, e4, e5]
      unfold enH pyI
      rw [this, ek]
/-- how many signs of a row earn for a -/
def hnI (ab : Int → Bool) (ow row : Int → Int) (n a : Int) : Int := cI (fun i => ab (row i) && decide (ow (row i) = a)) n
theorem fct_bnd (hab : ∀ s, ab s = true → 0 ≤ s ∧ s < 29) (ho : -1 ≤ ow (r i) ∧ ow (r i) ≤ 8) (hday : 0 ≤ day) (hi : 0 ≤ i ∧ i < n) (hr : 0 ≤ r i ∧ r i ≤ 29) : bnd (fct ab ow day r n i) (bdF day n) := by
  have h1 := lgI_le (ab := ab) (row := r) (n := n) (i := i) (by omega)
  have h2 := usI_r (row := r) hi.1
  have h3 := b1_01 (vwl (r i))
  have h4 := b1_01 (isL r n i && !isL r n (i - 1))
  have h5 : 0 ≤ lfI ab r i ∧ lfI ab r i ≤ 29 := by
    unfold lfI
    split
    · rename_i e
      have := hab _ e.2
      omega
    · omega
  refine nine ?_ ?_ ?_ ?_ ?_ ?_ ?_ ?_ ?_
  · exact hr
  · show 0 ≤ i ∧ i ≤ n; omega
  · exact h1
  · show 0 ≤ usI r i ∧ usI r i ≤ n; omega
  · exact h3
  · show 0 ≤ (if ow (r i) = -1 then 9 else ow (r i)) ∧ (if ow (r i) = -1 then 9 else ow (r i)) ≤ 9
    split <;> omega
  · exact ⟨hday, Int.le_refl _⟩
  · exact h5
  · exact h4
theorem sI_mul {p : Int → Bool} {h : Int → Int} {mo : Int} : ∀ m : Nat, (∀ k : Int, 0 ≤ k → k < m → (p k = true → h k ≤ mo) ∧ (p k = false → h k ≤ 0)) → sI h m ≤ mo * cI p m := by
  intro m
  induction m with
  | zero => intro _; show (0 : Int) ≤ mo * 0; omega
  | succ m ih =>
    intro hk
    have q := ih (fun k k0 k1 => hk k k0 (by omega))
    have q2 := hk m (by omega) (by omega)
    rw [show ((m + 1 : Nat) : Int) = (m : Int) + 1 by omega, sI_s (by omega)]
    cases e : p (m : Int) with
    | true =>
      rw [cI_t (by omega) e, Int.mul_add]
      have := q2.1 e
      omega
    | false =>
      rw [cI_f (by omega) e]
      have := q2.2 e
      omega
/-- nobody earns more than the most for each of his signs -/
theorem en_hn {mo : Int} (hn : 0 ≤ n) (hp : ∀ k, 0 ≤ k → k < n → ab (r k) = true → pyI ab ow day w r n k ≤ mo) : enI ab ow day w r n a ≤ mo * hnI ab ow r n a := by
  have := sI_mul (p := fun i => ab (r i) && decide (ow (r i) = a)) (h := enH ab ow day w r n a) (mo := mo) n.toNat (fun k k0 k1 => by
    constructor
    · intro e
      rw [Bool.and_eq_true, decide_eq_true_iff] at e
      rw [enH_t e.1 e.2]
      exact hp k k0 (by omega) e.1
    · intro e
      rw [Bool.and_eq_false_iff] at e
      rcases e with e | e
      · rw [enH_f e]; exact Int.le_refl _
      · rw [enH_o (of_decide_eq_false e)]; exact Int.le_refl _)
  rw [show ((n.toNat : Nat) : Int) = n by omega] at this
  exact this
end UN
theorem nd_lt {l mo h : Int} (hm : 0 ≤ mo) (hh : 0 ≤ h) (hl : h < ndI l mo) : mo * h < l := by
  unfold ndI at hl
  split at hl
  · rename_i q
    have h1 : (h + 1) * mo ≤ l + mo - 1 := (Int.le_ediv_iff_mul_le q).mp (by omega)
    rw [Int.add_mul] at h1
    rw [Int.mul_comm]
    omega
  · have : mo = 0 := by omega
    subst this
    omega
/-- one sign more helps one alone -/
theorem lack_z {a b : Int} (h : a ≤ b) : max 0 (a - b) = 0 := by omega
theorem lack_e {a b lk x : Int} (hx0 : 0 ≤ x) (hx1 : x < 8) (h : a ≤ b + 1) (hlk : lk = max 0 (a - b)) : lk ≤ 1 ∧ (lk = 1 → true = true ∧ 0 ≤ x ∧ x < 8 ∧ b < a) := by
  exact ⟨by omega, fun _ => ⟨rfl, hx0, hx1, by omega⟩⟩
theorem lack_n {lk : Int} {P : Prop} (hlk : lk = 0) : lk ≤ 1 ∧ (lk = 1 → P) := ⟨by omega, fun hh => absurd hh (by omega)⟩
theorem lack_1 {nd hd0 : Int → Int} {x lk : Int} {b : Bool} (hlk : lk = sI (fun o => max 0 (nd o - hd0 o)) 8) (hall : ∀ o, 0 ≤ o → o < 8 → nd o ≤ hd0 o + (if b = true ∧ x = o then 1 else 0)) : lk ≤ 1 ∧ (lk = 1 → b = true ∧ 0 ≤ x ∧ x < 8 ∧ hd0 x < nd x) := by
  have e : sI (fun o => max 0 (nd o - hd0 o)) 8 = max 0 (nd 0 - hd0 0) + max 0 (nd 1 - hd0 1) + max 0 (nd 2 - hd0 2) + max 0 (nd 3 - hd0 3) + max 0 (nd 4 - hd0 4) + max 0 (nd 5 - hd0 5) + max 0 (nd 6 - hd0 6) + max 0 (nd 7 - hd0 7) := by
    show (((((((0 + _) + _) + _) + _) + _) + _) + _) + _ = _
    rw [Int.zero_add]
    rfl
  rw [e] at hlk
  have h0 := hall 0 (by decide) (by decide)
  have h1 := hall 1 (by decide) (by decide)
  have h2 := hall 2 (by decide) (by decide)
  have h3 := hall 3 (by decide) (by decide)
  have h4 := hall 4 (by decide) (by decide)
  have h5 := hall 5 (by decide) (by decide)
  have h6 := hall 6 (by decide) (by decide)
  have h7 := hall 7 (by decide) (by decide)
  cases b with
  | false =>
    simp only [Bool.false_eq_true, false_and, if_false, Int.add_zero] at h0 h1 h2 h3 h4 h5 h6 h7
    rw [lack_z h0, lack_z h1, lack_z h2, lack_z h3, lack_z h4, lack_z h5, lack_z h6, lack_z h7] at hlk
    exact lack_n (by rw [hlk]; rfl)
  | true =>
    simp only [true_and] at h0 h1 h2 h3 h4 h5 h6 h7
    by_cases c0 : x = 0
    · subst c0
      rw [if_pos rfl] at h0
      rw [if_neg (by decide), Int.add_zero] at h1
      rw [if_neg (by decide), Int.add_zero] at h2
      rw [if_neg (by decide), Int.add_zero] at h3
      rw [if_neg (by decide), Int.add_zero] at h4
      rw [if_neg (by decide), Int.add_zero] at h5
      rw [if_neg (by decide), Int.add_zero] at h6
      rw [if_neg (by decide), Int.add_zero] at h7
      rw [lack_z h1, lack_z h2, lack_z h3, lack_z h4, lack_z h5, lack_z h6, lack_z h7] at hlk
      exact lack_e (by decide) (by decide) h0 (by rw [hlk]; simp only [Int.zero_add, Int.add_zero])
    by_cases c1 : x = 1
    · subst c1
      rw [if_neg (by decide), Int.add_zero] at h0
      rw [if_pos rfl] at h1
      rw [if_neg (by decide), Int.add_zero] at h2
      rw [if_neg (by decide), Int.add_zero] at h3
      rw [if_neg (by decide), Int.add_zero] at h4
      rw [if_neg (by decide), Int.add_zero] at h5
      rw [if_neg (by decide), Int.add_zero] at h6
      rw [if_neg (by decide), Int.add_zero] at h7
      rw [lack_z h0, lack_z h2, lack_z h3, lack_z h4, lack_z h5, lack_z h6, lack_z h7] at hlk
      exact lack_e (by decide) (by decide) h1 (by rw [hlk]; simp only [Int.zero_add, Int.add_zero])
    by_cases c2 : x = 2
    · subst c2
      rw [if_neg (by decide), Int.add_zero] at h0
      rw [if_neg (by decide), Int.add_zero] at h1
      rw [if_pos rfl] at h2
      rw [if_neg (by decide), Int.add_zero] at h3
      rw [if_neg (by decide), Int.add_zero] at h4
      rw [if_neg (by decide), Int.add_zero] at h5
      rw [if_neg (by decide), Int.add_zero] at h6
      rw [if_neg (by decide), Int.add_zero] at h7
      rw [lack_z h0, lack_z h1, lack_z h3, lack_z h4, lack_z h5, lack_z h6, lack_z h7] at hlk
      exact lack_e (by decide) (by decide) h2 (by rw [hlk]; simp only [Int.zero_add, Int.add_zero])
    by_cases c3 : x = 3
    · subst c3
      rw [if_neg (by decide), Int.add_zero] at h0
      rw [if_neg (by decide), Int.add_zero] at h1
      rw [if_neg (by decide), Int.add_zero] at h2
      rw [if_pos rfl] at h3
      rw [if_neg (by decide), Int.add_zero] at h4
      rw [if_neg (by decide), Int.add_zero] at h5
      rw [if_neg (by decide), Int.add_zero] at h6
      rw [if_neg (by decide), Int.add_zero] at h7
      rw [lack_z h0, lack_z h1, lack_z h2, lack_z h4, lack_z h5, lack_z h6, lack_z h7] at hlk
      exact lack_e (by decide) (by decide) h3 (by rw [hlk]; simp only [Int.zero_add, Int.add_zero])
    by_cases c4 : x = 4
    · subst c4
      rw [if_neg (by decide), Int.add_zero] at h0
      rw [if_neg (by decide), Int.add_zero] at h1
      rw [if_neg (by decide), Int.add_zero] at h2
      rw [if_neg (by decide), Int.add_zero] at h3
      rw [if_pos rfl] at h4
      rw [if_neg (by decide), Int.add_zero] at h5
      rw [if_neg (by decide), Int.add_zero] at h6
      rw [if_neg (by decide), Int.add_zero] at h7
      rw [lack_z h0, lack_z h1, lack_z h2, lack_z h3, lack_z h5, lack_z h6, lack_z h7] at hlk
      exact lack_e (by decide) (by decide) h4 (by rw [hlk]; simp only [Int.zero_add, Int.add_zero])
    by_cases c5 : x = 5
    · subst c5
      rw [if_neg (by decide), Int.add_zero] at h0
      rw [if_neg (by decide), Int.add_zero] at h1
      rw [if_neg (by decide), Int.add_zero] at h2
      rw [if_neg (by decide), Int.add_zero] at h3
      rw [if_neg (by decide), Int.add_zero] at h4
      rw [if_pos rfl] at h5
      rw [if_neg (by decide), Int.add_zero] at h6
      rw [if_neg (by decide), Int.add_zero] at h7
      rw [lack_z h0, lack_z h1, lack_z h2, lack_z h3, lack_z h4, lack_z h6, lack_z h7] at hlk
      exact lack_e (by decide) (by decide) h5 (by rw [hlk]; simp only [Int.zero_add, Int.add_zero])
    by_cases c6 : x = 6
    · subst c6
      rw [if_neg (by decide), Int.add_zero] at h0
      rw [if_neg (by decide), Int.add_zero] at h1
      rw [if_neg (by decide), Int.add_zero] at h2
      rw [if_neg (by decide), Int.add_zero] at h3
      rw [if_neg (by decide), Int.add_zero] at h4
      rw [if_neg (by decide), Int.add_zero] at h5
      rw [if_pos rfl] at h6
      rw [if_neg (by decide), Int.add_zero] at h7
      rw [lack_z h0, lack_z h1, lack_z h2, lack_z h3, lack_z h4, lack_z h5, lack_z h7] at hlk
      exact lack_e (by decide) (by decide) h6 (by rw [hlk]; simp only [Int.zero_add, Int.add_zero])
    by_cases c7 : x = 7
    · subst c7
      rw [if_neg (by decide), Int.add_zero] at h0
      rw [if_neg (by decide), Int.add_zero] at h1
      rw [if_neg (by decide), Int.add_zero] at h2
      rw [if_neg (by decide), Int.add_zero] at h3
      rw [if_neg (by decide), Int.add_zero] at h4
      rw [if_neg (by decide), Int.add_zero] at h5
      rw [if_neg (by decide), Int.add_zero] at h6
      rw [if_pos rfl] at h7
      rw [lack_z h0, lack_z h1, lack_z h2, lack_z h3, lack_z h4, lack_z h5, lack_z h6] at hlk
      exact lack_e (by decide) (by decide) h7 (by rw [hlk]; simp only [Int.zero_add, Int.add_zero])
    rw [if_neg c0, Int.add_zero] at h0
    rw [if_neg c1, Int.add_zero] at h1
    rw [if_neg c2, Int.add_zero] at h2
    rw [if_neg c3, Int.add_zero] at h3
    rw [if_neg c4, Int.add_zero] at h4
    rw [if_neg c5, Int.add_zero] at h5
    rw [if_neg c6, Int.add_zero] at h6
    rw [if_neg c7, Int.add_zero] at h7
    rw [lack_z h0, lack_z h1, lack_z h2, lack_z h3, lack_z h4, lack_z h5, lack_z h6, lack_z h7] at hlk
    exact lack_n (by rw [hlk]; rfl)
