/-! ===== fewest: what is asked ===== -/
def mst (st bu ow : Int → Int) (a : Int) : Prop := ¬ st a = 1 ∧ ∃ s, 0 ≤ s ∧ s < 29 ∧ ow s = a ∧ bu s = 0
/-- all eat by a row -/
def alE (ab : Int → Bool) (ow : Int → Int) (day : Int) (w : Lw) (br st bu : Int → Int) (crew : Int) (row : Int → Int) (n : Int) : Prop := ∀ a, 0 ≤ a → a < crew → mst st bu ow a → br a ≤ enI ab ow day w row n a
theorem alE_cg {ab : Int → Bool} {ow : Int → Int} {day : Int} {w : Lw} {br st bu : Int → Int} {crew : Int} {row row' : Int → Int} {n : Int} (h : ∀ k, 0 ≤ k → k < n → row k = row' k) : alE ab ow day w br st bu crew row n ↔ alE ab ow day w br st bu crew row' n := by
  unfold alE
  constructor
  · intro e a h0 h1 h2
    rw [← enI_cg h]
    exact e a h0 h1 h2
  · intro e a h0 h1 h2
    rw [enI_cg h]
    exact e a h0 h1 h2
def sol1 (E : (Int → Int) → Prop) (pg : Int → Int) (n i s : Int) : Prop := 0 ≤ i ∧ i < n ∧ ¬ pg i = 29 ∧ 0 ≤ s ∧ s < 29 ∧ ¬ s = pg i ∧ E (up pg i s)
def sol2 (E : (Int → Int) → Prop) (pg : Int → Int) (n i j s t : Int) : Prop := 0 ≤ i ∧ i < j ∧ j < n ∧ ¬ pg i = 29 ∧ ¬ pg j = 29 ∧ 0 ≤ s ∧ s < 29 ∧ ¬ s = pg i ∧ 0 ≤ t ∧ t < 29 ∧ ¬ t = pg j ∧ E (up (up pg i s) j t)
/-- the answers of fewest -/
def FewP (E : (Int → Int) → Prop) (pg : Int → Int) (n : Int) (ans : Int → Int) : Prop :=
  (12 < n ∧ ∀ w, 0 ≤ w → w ≤ 4 → ans w = -1) ∨
  (n ≤ 12 ∧ E pg ∧ ans 0 = 0 ∧ ∀ w, 1 ≤ w → w ≤ 4 → ans w = -1) ∨
  (n ≤ 12 ∧ ¬ E pg ∧ ans 0 = 1 ∧ sol1 E pg n (ans 1) (ans 2) ∧ (∀ i s, sol1 E pg n i s → ans 1 < i ∨ (ans 1 = i ∧ ans 2 ≤ s)) ∧ ans 3 = -1 ∧ ans 4 = -1) ∨
  (n ≤ 12 ∧ ¬ E pg ∧ (∀ i s, ¬ sol1 E pg n i s) ∧ ans 0 = 2 ∧ sol2 E pg n (ans 1) (ans 3) (ans 2) (ans 4) ∧ ∀ i j s t, sol2 E pg n i j s t → ans 1 < i ∨ (ans 1 = i ∧ (ans 3 < j ∨ (ans 3 = j ∧ (ans 2 < s ∨ (ans 2 = s ∧ ans 4 ≤ t)))))) ∨
  (n ≤ 12 ∧ ¬ E pg ∧ (∀ i s, ¬ sol1 E pg n i s) ∧ (∀ i j s t, ¬ sol2 E pg n i j s t) ∧ ∀ w, 0 ≤ w → w ≤ 4 → ans w = -1)
theorem five {P : Int → Prop} (h0 : P 0) (h1 : P 1) (h2 : P 2) (h3 : P 3) (h4 : P 4) : ∀ w, 0 ≤ w → w ≤ 4 → P w := by
  intro w a b
  have : w = 0 ∨ w = 1 ∨ w = 2 ∨ w = 3 ∨ w = 4 := by omega
  rcases this with e | e | e | e | e <;> subst e <;> assumption
theorem FewP_u {E : (Int → Int) → Prop} {pg : Int → Int} {n : Int} {a b : Int → Int} (ha : FewP E pg n a) (hb : FewP E pg n b) : ∀ w, 0 ≤ w → w ≤ 4 → a w = b w := by
  rcases ha with ⟨a1, a2⟩ | ⟨a1, a2, a3, a4⟩ | ⟨a1, a2, a3, a4, a5, a6, a7⟩ | ⟨a1, a2, a3, a4, a5, a6⟩ | ⟨a1, a2, a3, a4, a5⟩
  · rcases hb with ⟨b1, b2⟩ | ⟨b1, b2⟩ | ⟨b1, b2⟩ | ⟨b1, b2⟩ | ⟨b1, b2⟩
    · exact fun w h0 h1 => (a2 w h0 h1).trans (b2 w h0 h1).symm
    all_goals omega
  · rcases hb with ⟨b1, b2⟩ | ⟨b1, b2, b3, b4⟩ | ⟨b1, b2⟩ | ⟨b1, b2⟩ | ⟨b1, b2⟩
    · omega
    · exact five (a3.trans b3.symm) ((a4 1 (by decide) (by decide)).trans (b4 1 (by decide) (by decide)).symm) ((a4 2 (by decide) (by decide)).trans (b4 2 (by decide) (by decide)).symm) ((a4 3 (by decide) (by decide)).trans (b4 3 (by decide) (by decide)).symm) ((a4 4 (by decide) (by decide)).trans (b4 4 (by decide) (by decide)).symm)
    all_goals exact absurd a2 b2.1
  · rcases hb with ⟨b1, b2⟩ | ⟨b1, b2, b3, b4⟩ | ⟨b1, b2, b3, b4, b5, b6, b7⟩ | ⟨b1, b2, b3, b4⟩ | ⟨b1, b2, b3, b4⟩
    · omega
    · exact absurd b2 a2
    · have e1 := a5 _ _ b4
      have e2 := b5 _ _ a4
      exact five (a3.trans b3.symm) (by omega) (by omega) (a6.trans b6.symm) (a7.trans b7.symm)
    all_goals exact absurd a4 (b3 _ _)
  · rcases hb with ⟨b1, b2⟩ | ⟨b1, b2, b3, b4⟩ | ⟨b1, b2, b3, b4, b5⟩ | ⟨b1, b2, b3, b4, b5, b6⟩ | ⟨b1, b2, b3, b4, b5⟩
    · omega
    · exact absurd b2 a2
    · exact absurd b4 (a3 _ _)
    · have e1 := a6 _ _ _ _ b5
      have e2 := b6 _ _ _ _ a5
      exact five (a4.trans b4.symm) (by omega) (by omega) (by omega) (by omega)
    · exact absurd a5 (b4 _ _ _ _)
  · rcases hb with ⟨b1, b2⟩ | ⟨b1, b2, b3, b4⟩ | ⟨b1, b2, b3, b4, b5⟩ | ⟨b1, b2, b3, b4, b5, b6⟩ | ⟨b1, b2, b3, b4, b5⟩
    · omega
    · exact absurd b2 a2
    · exact absurd b4 (a3 _ _)
    · exact absurd b5 (a4 _ _ _ _)
    · exact fun w h0 h1 => (a5 w h0 h1).trans (b5 w h0 h1).symm
