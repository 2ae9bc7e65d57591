/-! ===== signs that are not on the page can't be swapped with gain ===== -/
section AB
variable {ab ab' : Int → Bool} {ow ow' : Int → Int} {day : Int} {w : Lw} {row : Int → Int} {n i : Int}
theorem lwI_ab (h : ∀ k, 0 ≤ k → k < n → ab (row k) = ab' (row k)) : ∀ m : Nat, lwI ab row n m = lwI ab' row n m := by
  intro m
  induction m with
  | zero => rfl
  | succ m ih =>
    rw [show (((m + 1 : Nat)) : Int) = (m : Int) + 1 by omega]
    cases e : isL row n (m : Int) with
    | true =>
      have e2 := isL_t.mp e
      rw [lwI_t (by omega) e, lwI_t (by omega) e, ih, h m (by omega) (by omega)]
    | false => rw [lwI_f (by omega) e, lwI_f (by omega) e]
theorem rrI_ab (h : ∀ k, 0 ≤ k → k < n → ab (row k) = ab' (row k)) : ∀ (m : Nat) (i : Int), n - i = m → rrI ab row n i = rrI ab' row n i := by
  intro m
  induction m with
  | zero => intro i hi; rw [rrI_f (isL_f.mpr (by omega)), rrI_f (isL_f.mpr (by omega))]
  | succ m ih =>
    intro i hi
    cases e : isL row n i with
    | true =>
      have e2 := isL_t.mp e
      rw [rrI_t (ab := ab) e, rrI_t (ab := ab') e, ih (i + 1) (by omega), h i (by omega) (by omega)]
    | false => rw [rrI_f e, rrI_f e]
theorem lgI_ab (h : ∀ k, 0 ≤ k → k < n → ab (row k) = ab' (row k)) (h0 : 0 ≤ i) (h1 : i < n) : lgI ab row n i = lgI ab' row n i := by
  have e1 := lwI_ab h i.toNat
  rw [show ((i.toNat : Nat) : Int) = i by omega] at e1
  unfold lgI
  rw [e1, rrI_ab h (n - i).toNat i (by omega)]
theorem pyI_ab (h : ∀ k, 0 ≤ k → k < n → ab (row k) = ab' (row k)) (ho : ow (row i) = ow' (row i)) (h0 : 0 ≤ i) (h1 : i < n) : pyI ab ow day w row n i = pyI ab' ow' day w row n i := by
  have e2 := lgI_ab h h0 h1
  have e4 : lfI ab row i = lfI ab' row i := by
    unfold lfI
    by_cases hi : 0 < i
    · rw [h (i - 1) (by omega) (by omega)]
    · rw [if_neg (fun e => hi e.1), if_neg (fun e => hi e.1)]
  have : fct ab ow day row n i = fct ab' ow' day row n i := by
    funext k
    unfold fct
    rw [e2, e4, ho]
  unfold pyI
  rw [this]
end AB
theorem sm_mono {h h' : Int → Int} : ∀ n : Nat, (∀ k : Int, 0 ≤ k → k < n → h k ≤ h' k) → sm h n ≤ sm h' n
  | 0, _ => Int.le_refl _
  | n + 1, e => by
    have h1 := sm_mono n (fun k h0 h1 => e k h0 (by omega))
    have h2 := e n (by omega) (by omega)
    rw [sm, sm]
    omega
theorem sI_mono {h h' : Int → Int} {n : Int} (e : ∀ k : Int, 0 ≤ k → k < n → h k ≤ h' k) : sI h n ≤ sI h' n := sm_mono _ (fun k h0 h1 => e k h0 (by omega))
theorem sI_pos {h : Int → Int} : ∀ {m : Nat}, 0 < sI h m → ∃ k : Int, 0 ≤ k ∧ k < m ∧ 0 < h k := by
  intro m
  induction m with
  | zero => intro e; exact absurd (show (0 : Int) < 0 from e) (by decide)
  | succ m ih =>
    intro e
    rw [show ((m + 1 : Nat) : Int) = (m : Int) + 1 by omega, sI_s (by omega)] at e
    by_cases h2 : 0 < h (m : Int)
    · exact ⟨m, by omega, by omega, h2⟩
    · obtain ⟨k, k0, k1, k2⟩ := ih (by omega)
      exact ⟨k, k0, by omega, k2⟩
/-- who earns owns a sign that can be printed -/
theorem en_pos {bu ow st : Int → Int} {day : Int} {w : Lw} {row : Int → Int} {n a : Int} (hn : 0 ≤ n) (h : 0 < enI (abl bu ow st) ow day w row n a) : 0 ≤ a ∧ st a = 0 := by
  rw [enI_eq, show n = ((n.toNat : Nat) : Int) by omega] at h
  obtain ⟨k, -, -, h2⟩ := sI_pos h
  unfold enH at h2
  split at h2
  · rename_i e
    have := abl_t.mp e.1
    rw [e.2] at this
    exact ⟨this.2.2.2.1, this.2.2.2.2⟩
  · omega
theorem sw_t {ow : Int → Int} {s t : Int} : sw ow s t t = ow s := up_s
theorem sw_s {ow : Int → Int} {s t : Int} (h : ¬ s = t) : sw ow s t s = ow t := by unfold sw; rw [up_n h, up_s]
theorem sw_o {ow : Int → Int} {s t k : Int} (h : ¬ k = s) (h2 : ¬ k = t) : sw ow s t k = ow k := by unfold sw; rw [up_n h2, up_n h]
theorem sw_c {ow : Int → Int} {s t : Int} (h : ¬ s = t) : sw ow s t = sw ow t s := by
  funext k
  by_cases e : k = t
  · subst e
    rw [sw_t, sw_s (fun e => h e.symm)]
  · by_cases e2 : k = s
    · subst e2
      rw [sw_s h, sw_t]
    · rw [sw_o e2 e, sw_o e e2]
/-- s isn't on the page: the owner of t earns no more -/
theorem off1 {bu ow st : Int → Int} {day : Int} {w : Lw} {row : Int → Int} {n s t : Int} (hn : 0 ≤ n) (hst : ¬ s = t) (hd : ¬ ow s = ow t) (h : ∀ i, 0 ≤ i → i < n → ¬ row i = s) (hs0 : 0 ≤ ow s) (hs1 : st (ow s) = 0) (ht0 : 0 ≤ ow t) (ht1 : st (ow t) = 0) : enI (abl bu (sw ow s t) st) (sw ow s t) day w row n (ow t) ≤ enI (abl bu ow st) ow day w row n (ow t) := by
  have hab : ∀ k, 0 ≤ k → k < n → abl bu (sw ow s t) st (row k) = abl bu ow st (row k) := by
    intro k h0 h1
    unfold abl
    by_cases e : row k = t
    · rw [e, sw_t]
      have e1 : (0 ≤ t ∧ t < 29 ∧ bu t = 0 ∧ 0 ≤ ow s ∧ st (ow s) = 0) ↔ (0 ≤ t ∧ t < 29 ∧ bu t = 0 ∧ 0 ≤ ow t ∧ st (ow t) = 0) := by
        constructor
        · rintro ⟨a, b, c, -, -⟩; exact ⟨a, b, c, ht0, ht1⟩
        · rintro ⟨a, b, c, -, -⟩; exact ⟨a, b, c, hs0, hs1⟩
      exact decide_eq_decide.mpr e1
    · rw [sw_o (h k h0 h1) e]
  rw [enI_eq, enI_eq]
  refine sI_mono (fun k h0 h1 => ?_)
  by_cases e : row k = t
  · rw [enH_o (by rw [e, sw_t]; exact hd)]
    exact enH_r.1
  · have eo := sw_o (ow := ow) (h k h0 h1) e
    unfold enH
    rw [hab k h0 h1, eo, pyI_ab (ow' := ow) hab eo h0 h1]
    exact Int.le_refl _
theorem gnB_off {bu st ow : Int → Int} {day : Int} {w : Lw} {row : Int → Int} {n s t : Int} (hn : 0 ≤ n) (hst : ¬ s = t) (h : (∀ i, 0 ≤ i → i < n → ¬ row i = s) ∨ (∀ i, 0 ≤ i → i < n → ¬ row i = t)) (hr : n ≤ 60) : gnB bu st ow day w row n s t = false := by
  cases e : gnB bu st ow day w row n s t with
  | false => rfl
  | true =>
    exfalso
    obtain ⟨e1, e2, e3, e4, e5⟩ := decide_eq_true_iff.mp e
    have p1 := (enI_r (ab := abl bu ow st) (ow := ow) (day := day) (w := w) (row := row) (a := ow s) ⟨hn, hr⟩).1
    have p2 := (enI_r (ab := abl bu ow st) (ow := ow) (day := day) (w := w) (row := row) (a := ow t) ⟨hn, hr⟩).1
    obtain ⟨a0, a1⟩ := en_pos hn (Int.lt_of_le_of_lt p1 e4)
    obtain ⟨b0, b1⟩ := en_pos hn (Int.lt_of_le_of_lt p2 e5)
    rcases h with h | h
    · have := off1 (bu := bu) (day := day) (w := w) hn hst e3 h a0 a1 b0 b1
      omega
    · have := off1 (bu := bu) (day := day) (w := w) hn (fun e => hst e.symm) (fun e => e3 e.symm) h b0 b1 a0 a1
      rw [← sw_c hst] at this
      omega
