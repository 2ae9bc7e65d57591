/-! ===== rows that are the same from 0 to n - 1 ===== -/
section CG
variable {ab : Int → Bool} {ow : Int → Int} {day : Int} {w : Lw} {row row' : Int → Int} {n i a : Int}
theorem isL_cg (h : ∀ k, 0 ≤ k → k < n → row k = row' k) : isL row n = isL row' n := by
  funext k
  by_cases hk : 0 ≤ k ∧ k < n
  · unfold isL
    rw [h k hk.1 hk.2]
  · rw [isL_f.mpr (fun e => hk ⟨e.1, e.2.1⟩), isL_f.mpr (fun e => hk ⟨e.1, e.2.1⟩)]
theorem lwI_cg (h : ∀ k, 0 ≤ k → k < n → row k = row' k) : ∀ m : Nat, lwI ab row n m = lwI ab row' n m := by
  intro m
  induction m with
  | zero => rfl
  | succ m ih =>
    rw [show (((m + 1 : Nat)) : Int) = (m : Int) + 1 by omega]
    cases e : isL row n (m : Int) with
    | true =>
      have e2 := isL_t.mp e
      rw [lwI_t (by omega) e, lwI_t (by omega) (by rw [← isL_cg h]; exact e), ih, h m (by omega) (by omega)]
    | false => rw [lwI_f (by omega) e, lwI_f (by omega) (by rw [← isL_cg h]; exact e)]
theorem rrI_cg (h : ∀ k, 0 ≤ k → k < n → row k = row' k) : ∀ (m : Nat) (i : Int), n - i = m → rrI ab row n i = rrI ab row' n i := by
  intro m
  induction m with
  | zero => intro i hi; rw [rrI_f (isL_f.mpr (by omega)), rrI_f (isL_f.mpr (by omega))]
  | succ m ih =>
    intro i hi
    cases e : isL row n i with
    | true =>
      have e2 := isL_t.mp e
      rw [rrI_t e, rrI_t (row := row') (i := i) (by rw [← isL_cg h]; exact e), ih (i + 1) (by omega), h i (by omega) (by omega)]
    | false => rw [rrI_f e, rrI_f (by rw [← isL_cg h]; exact e)]
theorem lgI_cg (h : ∀ k, 0 ≤ k → k < n → row k = row' k) (h0 : 0 ≤ i) (h1 : i < n) : lgI ab row n i = lgI ab row' n i := by
  have e1 := lwI_cg (ab := ab) h i.toNat
  rw [show ((i.toNat : Nat) : Int) = i by omega] at e1
  unfold lgI
  rw [isL_cg h, e1, rrI_cg h (n - i).toNat i (by omega)]
theorem fct_cg (h : ∀ k, 0 ≤ k → k < n → row k = row' k) (h0 : 0 ≤ i) (h1 : i < n) : fct ab ow day row n i = fct ab ow day row' n i := by
  have e1 := h i h0 h1
  have e2 := lgI_cg (ab := ab) h h0 h1
  have e3 : usI row i = usI row' i := by
    unfold usI
    rw [e1]
    exact cI_congr (fun k k0 k1 => by rw [h k k0 (by omega)])
  have e4 : lfI ab row i = lfI ab row' i := by
    unfold lfI
    by_cases hi : 0 < i
    · rw [h (i - 1) (by omega) (by omega)]
    · rw [if_neg (fun e => hi e.1), if_neg (fun e => hi e.1)]
  have e5 : fsI row n i = fsI row' n i := by unfold fsI; rw [isL_cg h]
  funext k
  unfold fct
  rw [e1, e2, e3, e4, e5]
theorem pyI_cg (h : ∀ k, 0 ≤ k → k < n → row k = row' k) (h0 : 0 ≤ i) (h1 : i < n) : pyI ab ow day w row n i = pyI ab ow day w row' n i := by
  unfold pyI
  rw [fct_cg h h0 h1]
theorem enH_cg (h : ∀ k, 0 ≤ k → k < n → row k = row' k) (h0 : 0 ≤ i) (h1 : i < n) : enH ab ow day w row n a i = enH ab ow day w row' n a i := by
  unfold enH
  rw [pyI_cg h h0 h1, h i h0 h1]
theorem enI_cg (h : ∀ k, 0 ≤ k → k < n → row k = row' k) : enI ab ow day w row n a = enI ab ow day w row' n a := by
  rw [enI_eq, enI_eq]
  exact sI_congr (fun k h0 h1 => enH_cg h h0 h1)
end CG
/-- sets told as ints -/
def stN (p : Int → Bool) : Nat → Int
  | 0 => 0
  | n + 1 => if p (n : Int) = true then b_or (stN p n) (b_shl 1 (n : Int)) else stN p n
def stI (p : Int → Bool) (n : Int) : Int := stN p n.toNat
theorem stI_0 {p : Int → Bool} : stI p 0 = 0 := rfl
theorem stI_t {p : Int → Bool} {i : Int} (hi : 0 ≤ i) (h : p i = true) : stI p (i + 1) = b_or (stI p i) (b_shl 1 i) := by
  unfold stI
  rw [show (i + 1).toNat = i.toNat + 1 by omega, stN, show ((i.toNat : Nat) : Int) = i by omega, if_pos h]
theorem stI_f {p : Int → Bool} {i : Int} (hi : 0 ≤ i) (h : p i = false) : stI p (i + 1) = stI p i := by
  unfold stI
  rw [show (i + 1).toNat = i.toNat + 1 by omega, stN, show ((i.toNat : Nat) : Int) = i by omega, h]
  rfl
theorem stN_cg {p q : Int → Bool} : ∀ n : Nat, (∀ k : Int, 0 ≤ k → k < n → p k = q k) → stN p n = stN q n
  | 0, _ => rfl
  | n + 1, h => by rw [stN, stN, stN_cg n (fun k h0 h1 => h k h0 (by omega)), h n (by omega) (by omega)]
theorem stI_cg {p q : Int → Bool} {n : Int} (h : ∀ k : Int, 0 ≤ k → k < n → p k = q k) : stI p n = stI q n := stN_cg _ (fun k h0 h1 => h k h0 (by omega))
/-- sums that wrap -/
def wsN (h : Int → Int) (p : Int → Bool) : Nat → Int
  | 0 => 0
  | n + 1 => if p (n : Int) = true then w32 (wsN h p n + h (n : Int)) else wsN h p n
def wsI (h : Int → Int) (p : Int → Bool) (n : Int) : Int := wsN h p n.toNat
theorem wsI_t {h : Int → Int} {p : Int → Bool} {i : Int} (hi : 0 ≤ i) (hp : p i = true) : wsI h p (i + 1) = w32 (wsI h p i + h i) := by
  unfold wsI
  rw [show (i + 1).toNat = i.toNat + 1 by omega, wsN, show ((i.toNat : Nat) : Int) = i by omega, if_pos hp]
theorem wsI_f {h : Int → Int} {p : Int → Bool} {i : Int} (hi : 0 ≤ i) (hp : p i = false) : wsI h p (i + 1) = wsI h p i := by
  unfold wsI
  rw [show (i + 1).toNat = i.toNat + 1 by omega, wsN, show ((i.toNat : Nat) : Int) = i by omega, hp]
  rfl
theorem wsN_cg {h h' : Int → Int} {p q : Int → Bool} : ∀ n : Nat, (∀ k : Int, 0 ≤ k → k < n → p k = q k ∧ h k = h' k) → wsN h p n = wsN h' q n
  | 0, _ => rfl
  | n + 1, e => by rw [wsN, wsN, wsN_cg n (fun k h0 h1 => e k h0 (by omega)), (e n (by omega) (by omega)).1, (e n (by omega) (by omega)).2]
theorem wsI_cg {h h' : Int → Int} {p q : Int → Bool} {n : Int} (e : ∀ k : Int, 0 ≤ k → k < n → p k = q k ∧ h k = h' k) : wsI h p n = wsI h' q n := wsN_cg _ (fun k h0 h1 => e k h0 (by omega))
