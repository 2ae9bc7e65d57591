/-! ===== alike where it counts ===== -/
section AK
variable {ab : Int → Bool} {ow ow' : Int → Int} {day : Int} {w : Lw} {row row' : Int → Int} {n a : Int}
theorem en_ow (hab : ∀ s, ab s = true → 0 ≤ s ∧ s < 29) (h : ∀ s, 0 ≤ s → s < 29 → ow s = ow' s) : enI ab ow day w row n a = enI ab ow' day w row n a := by
  refine sI_congr (fun i i0 i1 => ?_)
  show (if ab (row i) = true ∧ ow (row i) = a then pyI ab ow day w row n i else 0) = (if ab (row i) = true ∧ ow' (row i) = a then pyI ab ow' day w row n i else 0)
  by_cases e : ab (row i) = true
  · have hr := hab _ e
    rw [h _ hr.1 hr.2, pyI_ab (ab := ab) (ab' := ab) (ow := ow) (ow' := ow') (fun k _ _ => rfl) (h _ hr.1 hr.2) i0 i1]
  · rw [if_neg (fun q => e q.1), if_neg (fun q => e q.1)]
theorem abl_in {bu ow st : Int → Int} (s : Int) (h : abl bu ow st s = true) : 0 ≤ s ∧ s < 29 := ⟨(abl_t.mp h).1, (abl_t.mp h).2.1⟩
theorem mst_cg {st st' bu bu' : Int → Int} {o : Int} (h1 : st o = st' o) (h2 : ∀ s, 0 ≤ s → s < 29 → bu s = bu' s ∧ ow s = ow' s) (h : mst st bu ow o) : mst st' bu' ow' o := by
  obtain ⟨q1, s, s0, s1, q2, q3⟩ := h
  exact ⟨by rw [← h1]; exact q1, s, s0, s1, by rw [← (h2 s s0 s1).2]; exact q2, by rw [← (h2 s s0 s1).1]; exact q3⟩
theorem al_cg {br br' st st' bu bu' : Int → Int} {crew : Int} (hc : crew ≤ 8) (hab : ∀ s, ab s = true → 0 ≤ s ∧ s < 29) (h1 : ∀ o, 0 ≤ o → o < 8 → br o = br' o ∧ st o = st' o) (h2 : ∀ s, 0 ≤ s → s < 29 → bu s = bu' s ∧ ow s = ow' s) (hr : ∀ k, 0 ≤ k → k < n → row k = row' k) (H : alE ab ow day w br st bu crew row n) : alE ab ow' day w br' st' bu' crew row' n := by
  intro o o0 o1 hm
  have q := H o o0 o1 (mst_cg (h1 o o0 (by omega)).2.symm (fun s s0 s1 => ⟨(h2 s s0 s1).1.symm, (h2 s s0 s1).2.symm⟩) hm)
  rw [← (h1 o o0 (by omega)).1, ← en_ow hab (fun s s0 s1 => (h2 s s0 s1).2), ← enI_cg hr]
  exact q
theorem Few_cg {E E' : (Int → Int) → Prop} {pg pg' : Int → Int} {ans : Int → Int} (hp : ∀ k, 0 ≤ k → k < n → pg k = pg' k) (h1 : ∀ r r', (∀ k, 0 ≤ k → k < n → r k = r' k) → (E r ↔ E' r')) (h : FewP E pg n ans) : FewP E' pg' n ans := by
  have s1 : ∀ i s, sol1 E pg n i s ↔ sol1 E' pg' n i s := by
    intro i s
    unfold sol1
    constructor
    · rintro ⟨a0, a1, a2, a3, a4, a5, a6⟩
      exact ⟨a0, a1, by rw [← hp i a0 a1]; exact a2, a3, a4, by rw [← hp i a0 a1]; exact a5, (h1 _ _ (up_cg hp)).mp a6⟩
    · rintro ⟨a0, a1, a2, a3, a4, a5, a6⟩
      exact ⟨a0, a1, by rw [hp i a0 a1]; exact a2, a3, a4, by rw [hp i a0 a1]; exact a5, (h1 _ _ (up_cg hp)).mpr a6⟩
  have s2 : ∀ i j s t, sol2 E pg n i j s t ↔ sol2 E' pg' n i j s t := by
    intro i j s t
    unfold sol2
    constructor
    · rintro ⟨a0, a1, a2, a3, a4, a5, a6, a7, a8, a9, b0, b1⟩
      exact ⟨a0, a1, a2, by rw [← hp i a0 (by omega)]; exact a3, by rw [← hp j (by omega) a2]; exact a4, a5, a6, by rw [← hp i a0 (by omega)]; exact a7, a8, a9, by rw [← hp j (by omega) a2]; exact b0, (h1 _ _ (up_cg (up_cg hp))).mp b1⟩
    · rintro ⟨a0, a1, a2, a3, a4, a5, a6, a7, a8, a9, b0, b1⟩
      exact ⟨a0, a1, a2, by rw [hp i a0 (by omega)]; exact a3, by rw [hp j (by omega) a2]; exact a4, a5, a6, by rw [hp i a0 (by omega)]; exact a7, a8, a9, by rw [hp j (by omega) a2]; exact b0, (h1 _ _ (up_cg (up_cg hp))).mpr b1⟩
  have s0 : E pg ↔ E' pg' := h1 _ _ hp
  rcases h with ⟨a1, a2⟩ | ⟨a1, a2, a3, a4⟩ | ⟨a1, a2, a3, a4, a5, a6, a7⟩ | ⟨a1, a2, a3, a4, a5, a6⟩ | ⟨a1, a2, a3, a4, a5⟩
  · exact Or.inl ⟨a1, a2⟩
  · exact Or.inr (Or.inl ⟨a1, s0.mp a2, a3, a4⟩)
  · exact Or.inr (Or.inr (Or.inl ⟨a1, fun q => a2 (s0.mpr q), a3, (s1 _ _).mp a4, fun i s q => a5 i s ((s1 i s).mpr q), a6, a7⟩))
  · exact Or.inr (Or.inr (Or.inr (Or.inl ⟨a1, fun q => a2 (s0.mpr q), fun i s q => a3 i s ((s1 i s).mpr q), a4, (s2 _ _ _ _).mp a5, fun i j s t q => a6 i j s t ((s2 i j s t).mpr q)⟩)))
  · exact Or.inr (Or.inr (Or.inr (Or.inr ⟨a1, fun q => a2 (s0.mpr q), fun i s q => a3 i s ((s1 i s).mpr q), fun i j s t q => a4 i j s t ((s2 i j s t).mpr q), a5⟩)))
theorem Swp_cg {G G' : Int → Bool} {ans : Int → Int} (h : ∀ q, 0 ≤ q → q < 841 → G q = G' q) (H : SwpP G ans) : SwpP G' ans := by
  obtain ⟨h0, h1⟩ := H
  refine ⟨by rw [h0]; exact cI_congr h, ?_⟩
  rcases h1 with q | ⟨q1, q, q2, q3, q4, q5, q6, q7⟩
  · exact Or.inl q
  · exact Or.inr ⟨q1, q, q2, q3, by rw [← h q q2 q3]; exact q4, fun k k0 k1 => by rw [← h k k0 (by omega)]; exact q5 k k0 k1, q6, q7⟩
theorem sw_cg {s t : Int} (hs : 0 ≤ s ∧ s < 29) (ht : 0 ≤ t ∧ t < 29) (h : ∀ q, 0 ≤ q → q < 29 → ow q = ow' q) : ∀ q, 0 ≤ q → q < 29 → sw ow s t q = sw ow' s t q := by
  intro q q0 q1
  unfold sw
  by_cases e : q = t
  · rw [e, up_s, up_s, h s hs.1 hs.2]
  · rw [up_n e, up_n e]
    by_cases e2 : q = s
    · rw [e2, up_s, up_s, h t ht.1 ht.2]
    · rw [up_n e2, up_n e2, h q q0 q1]
theorem sw_v {s t : Int} {P : Int → Prop} (h : ∀ q, 0 ≤ q → q < 29 → P (ow q)) (hs : 0 ≤ s ∧ s < 29) (ht : 0 ≤ t ∧ t < 29) : ∀ q, 0 ≤ q → q < 29 → P (sw ow s t q) := by
  intro q q0 q1
  unfold sw
  by_cases e : q = t
  · rw [e, up_s]; exact h s hs.1 hs.2
  · rw [up_n e]
    by_cases e2 : q = s
    · rw [e2, up_s]; exact h t ht.1 ht.2
    · rw [up_n e2]; exact h q q0 q1
theorem gnQ_cg {bu bu' st st' : Int → Int} (h2 : ∀ s, 0 ≤ s → s < 29 → bu s = bu' s ∧ ow s = ow' s) (ho : ∀ s, 0 ≤ s → s < 29 → ow s < 8) (h1 : ∀ o, 0 ≤ o → o < 8 → st o = st' o) (hr : ∀ k, 0 ≤ k → k < n → row k = row' k) : ∀ q, 0 ≤ q → q < 841 → gnQ bu st ow day w row n q = gnQ bu' st' ow' day w row' n q := by
  intro q q0 q1
  unfold gnQ
  congr 1
  have hs : 0 ≤ q / 29 ∧ q / 29 < 29 := by omega
  have ht : 0 ≤ q % 29 ∧ q % 29 < 29 := by omega
  have e0 : abl bu ow st = abl bu' ow' st' := abl_eq h2 (fun s s0 s1 s2 => h1 _ s2 (ho s s0 s1))
  have hsw := sw_cg hs ht (fun s s0 s1 => (h2 s s0 s1).2)
  have e1 : abl bu (sw ow (q / 29) (q % 29)) st = abl bu' (sw ow' (q / 29) (q % 29)) st' := abl_eq (fun s s0 s1 => ⟨(h2 s s0 s1).1, hsw s s0 s1⟩) (fun s s0 s1 s2 => h1 _ s2 (sw_v (P := fun z => z < 8) ho hs ht s s0 s1))
  unfold gnB
  rw [← (h2 _ hs.1 hs.2).2, ← (h2 _ ht.1 ht.2).2, ← e0, ← e1]
  simp only [← en_ow (abl_in (bu := bu) (ow := ow) (st := st)) (fun s s0 s1 => (h2 s s0 s1).2), ← en_ow (abl_in (bu := bu) (ow := sw ow (q / 29) (q % 29)) (st := st)) hsw, ← enI_cg hr]
theorem Buy_cg {V V' : Int → Int → Int → Int} {cnt : Int} {ans : Int → Int} (h : ∀ x y z, cok cnt x y z → V x y z = V' x y z) (H : BuyP V cnt ans) : BuyP V' cnt ans := by
  obtain ⟨h1, h2, h3⟩ := H
  refine ⟨h1, by rw [← h _ _ _ h1]; exact h2, fun x y z hc => ?_⟩
  have q := h3 x y z hc
  unfold btr at q ⊢
  rw [← h _ _ _ h1, ← h _ _ _ hc]
  exact q
theorem vB_cg {L L' W W' : Int → Int} {cnt x y z : Int} (hab : ∀ s, ab s = true → 0 ≤ s ∧ s < 29) (h : ∀ s, 0 ≤ s → s < 29 → ow s = ow' s) (hL : ∀ q, 0 ≤ q → q < cnt → L q = L' q ∧ 1 ≤ L q ∧ ∀ j, 0 ≤ j → j < L q → W (12 * q + j) = W' (12 * q + j)) (hc : cok cnt x y z) : vB ab ow day w L W a x y z = vB ab ow' day w L' W' a x y z := by
  unfold vB
  unfold cok at hc
  have hx := hL x hc.1 hc.2.1
  have e : ln3 L x y z = ln3 L' x y z := by
    unfold ln3
    rw [hx.1]
    rcases hc.2.2 with q | ⟨q1, q2, q3⟩
    · rw [if_pos q.1, if_pos q.2, if_pos q.1, if_pos q.2]
    · rw [if_neg (show ¬ y = -1 by omega), if_neg (show ¬ y = -1 by omega), (hL y (by omega) q2).1]
      rcases q3 with q4 | q4
      · rw [if_pos q4, if_pos q4]
      · rw [if_neg (show ¬ z = -1 by omega), if_neg (show ¬ z = -1 by omega), (hL z (by omega) q4.2).1]
  rw [← e, en_ow hab h]
  refine enI_cg (fun p p0 p1 => ?_)
  unfold ln3 at p1
  unfold rw3
  rw [← hx.1]
  by_cases c1 : p < L x
  · rw [if_pos c1, if_pos c1, hx.2.2 p p0 c1]
  · rw [if_neg c1, if_neg c1]
    by_cases c2 : p = L x
    · rw [if_pos c2, if_pos c2]
    · rw [if_neg c2, if_neg c2]
      rcases hc.2.2 with q | ⟨q1, q2, q3⟩
      · rw [if_pos q.1, if_pos q.2] at p1; omega
      · have hy := hL y (by omega) q2
        rw [if_neg (by omega)] at p1
        rw [← hy.1]
        by_cases c3 : p < L x + 1 + L y
        · rw [if_pos c3, if_pos c3, hy.2.2 _ (by omega) (by omega)]
        · rw [if_neg c3, if_neg c3]
          by_cases c4 : p = L x + 1 + L y
          · rw [if_pos c4, if_pos c4]
          · rw [if_neg c4, if_neg c4]
            rcases q3 with q4 | q4
            · rw [if_pos q4] at p1; omega
            · have hz := hL z (by omega) q4.2
              rw [if_neg (by omega)] at p1
              rw [hz.2.2 _ (by omega) (by omega)]
end AK
