/-! ===== what a word earns never depends on what is set behind it ===== -/
section PF
variable {ab : Int → Bool} {ow : Int → Int} {day : Int} {w : Lw} {r r1 : Int → Int} {n n1 i a : Int}
theorem pf_isL (h : ∀ k, 0 ≤ k → k < n1 → r k = r1 k) (h29 : r n1 = 29) (hn : n1 < n) (hi : i ≤ n1) : isL r n i = isL r1 n1 i := by
  by_cases h0 : 0 ≤ i
  · by_cases e : i = n1
    · rw [isL_f.mpr (by rw [e, h29]; omega), isL_f.mpr (by omega)]
    · unfold isL
      rw [h i h0 (by omega)]
      have : (0 ≤ i ∧ i < n ∧ r1 i < 26) ↔ (0 ≤ i ∧ i < n1 ∧ r1 i < 26) := by omega
      exact decide_eq_decide.mpr this
  · rw [isL_f.mpr (by omega), isL_f.mpr (by omega)]
theorem pf_lw (h : ∀ k, 0 ≤ k → k < n1 → r k = r1 k) (h29 : r n1 = 29) (hn : n1 < n) : ∀ m : Nat, (m : Int) ≤ n1 → lwI ab r n m = lwI ab r1 n1 m := by
  intro m
  induction m with
  | zero => intro _; rfl
  | succ m ih =>
    intro hm
    have ih := ih (by omega)
    have e0 := pf_isL (i := (m : Int)) h h29 hn (by omega)
    rw [show (((m + 1 : Nat)) : Int) = (m : Int) + 1 by omega]
    cases e : isL r n (m : Int) with
    | true => rw [lwI_t (by omega) e, lwI_t (by omega) (by rw [← e0]; exact e), ih, h m (by omega) (by omega)]
    | false => rw [lwI_f (by omega) e, lwI_f (by omega) (by rw [← e0]; exact e)]
theorem pf_rr (h : ∀ k, 0 ≤ k → k < n1 → r k = r1 k) (h29 : r n1 = 29) (hn : n1 < n) : ∀ (m : Nat) (i : Int), n1 - i = m → rrI ab r n i = rrI ab r1 n1 i := by
  intro m
  induction m with
  | zero =>
    intro i hi
    have e0 := pf_isL (i := i) h h29 hn (by omega)
    have e1 : isL r1 n1 i = false := isL_f.mpr (by omega)
    rw [rrI_f (by rw [e0]; exact e1), rrI_f e1]
  | succ m ih =>
    intro i hi
    have e0 := pf_isL (i := i) h h29 hn (by omega)
    cases e : isL r n i with
    | true =>
      have e1 : isL r1 n1 i = true := by rw [← e0]; exact e
      have e2 := isL_t.mp e1
      rw [rrI_t e, rrI_t e1, ih (i + 1) (by omega), h i (by omega) (by omega)]
    | false => rw [rrI_f e, rrI_f (by rw [← e0]; exact e)]
theorem pf_py (h : ∀ k, 0 ≤ k → k < n1 → r k = r1 k) (h29 : r n1 = 29) (hn : n1 < n) (h0 : 0 ≤ i) (h1 : i < n1) : pyI ab ow day w r n i = pyI ab ow day w r1 n1 i := by
  have e1 := h i h0 h1
  have e2 : lgI ab r n i = lgI ab r1 n1 i := by
    have q := pf_lw (ab := ab) h h29 hn i.toNat (by omega)
    rw [show ((i.toNat : Nat) : Int) = i by omega] at q
    unfold lgI
    rw [pf_isL h h29 hn (by omega), q, pf_rr h h29 hn (n1 - i).toNat i (by omega)]
  have e3 : usI r i = usI r1 i := by
    unfold usI
    rw [e1]
    exact cI_congr (fun k k0 k1 => by rw [h k k0 (by omega)])
  have e4 : lfI ab r i = lfI ab r1 i := by
    unfold lfI
    by_cases hi : 0 < i
    · rw [h (i - 1) (by omega) (by omega)]
    · rw [if_neg (fun e => hi e.1), if_neg (fun e => hi e.1)]
  have e5 : fsI r n i = fsI r1 n1 i := by unfold fsI; rw [pf_isL h h29 hn (by omega), pf_isL h h29 hn (by omega)]
  have : fct ab ow day r n i = fct ab ow day r1 n1 i := by
    funext k
    unfold fct
    rw [e1, e2, e3, e4, e5]
  unfold pyI
  rw [this]
/-- the earnings of the places ahead -/
theorem pf_en (h0 : 0 ≤ n1) (h : ∀ k, 0 ≤ k → k < n1 → r k = r1 k) (h29 : r n1 = 29) (hn : n1 < n) (hab : ab 29 = false) : sI (enH ab ow day w r n a) (n1 + 1) = enI ab ow day w r1 n1 a := by
  rw [sI_s h0, enH_f (by rw [h29]; exact hab), Int.add_zero, enI_eq]
  refine sI_congr (fun k k0 k1 => ?_)
  unfold enH
  rw [h k k0 k1, pf_py h h29 hn k0 k1]
end PF
theorem byC_step {V : Int → Int → Int → Int} {cnt k mo x y z a b c : Int} (hcn : cnt ≤ 20) (h : byI V cnt odc k mo x y z) (hV : ∀ a b c, cok cnt a b c → 0 ≤ V a b c) (hc : cok cnt a b c) (hK : odc a b c = k) : ((mo < V a b c ∨ (V a b c = mo ∧ ((b = -1 ∧ ¬ y = -1) ∨ (c = -1 ∧ ¬ z = -1)))) → byI V cnt odc (k + 1) (V a b c) a b c) ∧ (¬ (mo < V a b c ∨ (V a b c = mo ∧ ((b = -1 ∧ ¬ y = -1) ∨ (c = -1 ∧ ¬ z = -1)))) → byI V cnt odc (k + 1) mo x y z) := by
  have hi : ∀ a' b' c', cok cnt a' b' c' → odc a' b' c' = k → a' = a ∧ b' = b ∧ c' = c := fun a' b' c' h1 h2 => odc_inj hcn h1 hc (h2.trans hK.symm)
  have hv := hV a b c hc
  rcases id h with ⟨h1, h2⟩ | ⟨h1, h2, h3, h4⟩
  · exact ⟨fun _ => byI_new h hV hc hK hi (Or.inl (by omega)), fun hm => absurd (Or.inl (by omega)) hm⟩
  · have hsz : ((b = -1 ∧ ¬ y = -1) ∨ (c = -1 ∧ ¬ z = -1)) ↔ szc b c < szc y z := by
      obtain ⟨p1, p2, q1⟩ := hc
      obtain ⟨p3, p4, q2⟩ := h1
      unfold szc
      repeat' split
      all_goals omega
    have hlt : odc x y z < odc a b c := by omega
    refine ⟨fun hm => byI_new h hV hc hK hi ?_, fun hm => byI_old h hV hc hK hi ?_⟩
    · rcases hm with hm | ⟨hm, hf⟩
      · exact Or.inl hm
      · exact Or.inr ⟨hm.symm, Or.inl (hsz.mp hf)⟩
    · rintro (q | ⟨q, q2 | ⟨q2, q3⟩⟩)
      · exact hm (Or.inl q)
      · exact hm (Or.inr ⟨q.symm, hsz.mpr q2⟩)
      · omega
theorem odc_c {cnt a b c : Int} (h : cok cnt a b c) : 0 ≤ a ∧ a < cnt ∧ ((b = -1 ∧ c = -1 ∧ odc a b c = a * 441) ∨ (a < b ∧ b < cnt ∧ c = -1 ∧ odc a b c = a * 441 + (b + 1) * 21) ∨ (a < b ∧ b < c ∧ c < cnt ∧ odc a b c = a * 441 + (b + 1) * 21 + (c + 1))) := by
  obtain ⟨h0, h1, h2⟩ := h
  refine ⟨h0, h1, ?_⟩
  rcases h2 with ⟨rfl, rfl⟩ | ⟨h2, h3, h4⟩
  · exact Or.inl ⟨rfl, rfl, by unfold odc; omega⟩
  · rcases h4 with rfl | ⟨h4, h5⟩
    · exact Or.inr (Or.inl ⟨h2, h3, rfl, by unfold odc; omega⟩)
    · exact Or.inr (Or.inr ⟨h2, h4, h5, by unfold odc; omega⟩)
