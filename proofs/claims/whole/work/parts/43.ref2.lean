theorem in_nI {j n : Nat} (h : j < n) (hn : n < 2 ^ 31) : x_in (nI j) n = true := by
  have h1 := nI_toInt (n := j) (by omega)
  unfold x_in
  simp only [Bool.and_eq_true, decide_eq_true_eq]
  omega
/-- cells copied: the places a .. b of cell d out of cell s -/
def cp (f : Nat → Nat → Int32) (dc sc a b : Nat) : Nat → Nat → Int32 := fun c k => if c = dc ∧ a ≤ k ∧ k < b then f sc k else f c k
theorem cp_step {f : Nat → Nat → Int32} {dc sc a b : Nat} (h : a < b) (hne : sc ≠ dc) : cp (wr f dc a (f sc a)) dc sc (a + 1) b = cp f dc sc a b := by
  funext c k
  unfold cp
  by_cases hc : c = dc
  · subst hc
    by_cases h1 : a + 1 ≤ k ∧ k < b
    · rw [if_pos ⟨rfl, h1⟩, if_pos ⟨rfl, by omega, h1.2⟩, wr_c hne]
    · rw [if_neg (fun h2 => h1 h2.2)]
      by_cases h2 : k = a
      · subst h2
        rw [wr_s, if_pos ⟨rfl, Nat.le_refl _, h⟩]
      · rw [wr_k h2, if_neg (fun h3 => h1 ⟨by omega, h3.2.2⟩)]
  · rw [if_neg (fun h2 => hc h2.1), if_neg (fun h2 => hc h2.1), wr_c hc]
theorem cp_nil {f : Nat → Nat → Int32} {dc sc a : Nat} : cp f dc sc a a = f := by
  funext c k
  unfold cp
  rw [if_neg (fun h => by omega)]
section R2
variable (d : Nat) (g : Nat → Nat → Int64)
set_option maxRecDepth 100000 in
theorem r_thinks_lp : ∀ (m n k i : Nat) (f : Nat → Nat → Int32) (N : Nat), f 79 13 = nI N → N ≤ 60 → i + m = N → m ≤ n → ze d 18 n (k + 30) ((kE.2.2.2 18).drop 6) [some (.ref 79), some (.int (nI i))] [] (kS, f, g) = some (none, (kS, cp f 89 88 i N, g)) := by
  intro m
  induction m with
  | zero =>
    intro n k i f N hN hN60 him hmn
    refine e_t (c_ge.mpr (by show f 79 13 ≤ nI i; rw [hN]; exact nI_le (by omega) (by omega))) ?_
    rw [show i = N by omega, cp_nil]
    rfl
  | succ m ih =>
    intro n k i f N hN hN60 him hmn
    obtain ⟨n, rfl⟩ : ∃ n', n = n' + 1 := ⟨n - 1, by omega⟩
    refine e_f (c_no c_ge (by show ¬ f 79 13 ≤ nI i; rw [hN]; exact nI_ge (by omega) (by omega))) ?_
    refine e_t (in_nI (n := 60) (by omega) (by omega)) ?_
    refine e_t (in_nI (n := 60) (by omega) (by omega)) ?_
    have h := ih n 670 (i + 1) (wr f 89 i (f 88 i)) N (by rw [wr_c (by decide)]; exact hN) hN60 (by omega) (by omega)
    rw [cp_step (by omega) (by decide)] at h
    rw [← h, ← nI_1 i, show wr f 89 i (f 88 i) = wr f 89 (nI i).toNatClampNeg (f 88 (nI i).toNatClampNeg) by rw [nI_clamp (by omega)]]
    rfl
end R2
