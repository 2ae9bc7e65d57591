section C36
variable {d : Nat} {f : iF} {g : iG} {Q : Option iv → iF → iG → Prop}
/-! ===== the class: the remedy is sought ===== -/
theorem up_sw {r : Int → Int} {i k s t : Int} (h : ¬ i = k) : up (up r i s) k t = up (up r k t) i s := by
  funext x
  by_cases e : x = k
  · rw [e, up_s, up_n (fun q => h q.symm), up_s]
  · rw [up_n e]
    by_cases e2 : x = i
    · rw [e2, up_s, up_s]
    · rw [up_n e2, up_n e2, up_n e]
theorem fwE {D E : (Int → Int) → Prop} {pg ans : Int → Int} {n : Int} (h : ∀ r, D r ↔ E r) (H : FewP D pg n ans) : FewP E pg n ans := by
  have e : D = E := funext fun r => propext (h r)
  rw [← e]; exact H
theorem fw1 {D : (Int → Int) → Prop} {pg ans : Int → Int} {n i s : Int} (hn : n ≤ 12) (hNE : ¬ D pg) (hi : 0 ≤ i ∧ i < n) (hs : 0 ≤ s ∧ s < 29 ∧ ¬ s = pg i ∧ ¬ pg i = 29) (hD : D (up pg i s)) (hN1 : ∀ x t, 0 ≤ x → x < i → 0 ≤ t → t < 29 → ¬ t = pg x → ¬ pg x = 29 → ¬ D (up pg x t)) (hN : ∀ t, 0 ≤ t → t < s → ¬ t = pg i → ¬ pg i = 29 → ¬ D (up pg i t)) (a0 : ans 0 = 1) (a1 : ans 1 = i) (a2 : ans 2 = s) (a3 : ans 3 = -1) (a4 : ans 4 = -1) : FewP D pg n ans := by
  refine Or.inr (Or.inr (Or.inl ⟨hn, hNE, a0, ?_, ?_, a3, a4⟩))
  · rw [a1, a2]; exact ⟨hi.1, hi.2, hs.2.2.2, hs.1, hs.2.1, hs.2.2.1, hD⟩
  · rintro x t ⟨h0, h1, h2, h3, h4, h5, h6⟩
    rw [a1, a2]
    by_cases e : x < i
    · exact absurd h6 (hN1 x t h0 e h3 h4 h5 h2)
    · by_cases e2 : x = i
      · rw [e2] at h2 h5 h6
        by_cases e3 : t < s
        · exact absurd h6 (hN t h3 e3 h5 h2)
        · exact Or.inr ⟨e2.symm, by omega⟩
      · exact Or.inl (by omega)
theorem fw2 {D : (Int → Int) → Prop} {pg ans : Int → Int} {n i j s t : Int} (hn : n ≤ 12) (hNE : ¬ D pg) (hN1 : ∀ x t, 0 ≤ x → x < n → 0 ≤ t → t < 29 → ¬ t = pg x → ¬ pg x = 29 → ¬ D (up pg x t)) (hi : 0 ≤ i ∧ i < j ∧ j < n) (hs : 0 ≤ s ∧ s < 29 ∧ ¬ s = pg i ∧ ¬ pg i = 29) (ht : 0 ≤ t ∧ t < 29 ∧ ¬ t = pg j ∧ ¬ pg j = 29) (hD : D (up (up pg i s) j t)) (hN2 : ∀ x y s t, 0 ≤ x → x < y → y < n → (x < i ∨ (x = i ∧ y < j)) → 0 ≤ s → s < 29 → ¬ s = pg x → ¬ pg x = 29 → 0 ≤ t → t < 29 → ¬ t = pg y → ¬ pg y = 29 → ¬ D (up (up pg x s) y t)) (hN3 : ∀ u v, 0 ≤ u → u < s → ¬ u = pg i → ¬ pg i = 29 → 0 ≤ v → v < 29 → ¬ v = pg j → ¬ pg j = 29 → ¬ D (up (up pg i u) j v)) (hN4 : ∀ v, 0 ≤ v → v < t → ¬ v = pg j → ¬ pg j = 29 → ¬ D (up (up pg i s) j v)) (a0 : ans 0 = 2) (a1 : ans 1 = i) (a2 : ans 2 = s) (a3 : ans 3 = j) (a4 : ans 4 = t) : FewP D pg n ans := by
  refine Or.inr (Or.inr (Or.inr (Or.inl ⟨hn, hNE, ?_, a0, ?_, ?_⟩)))
  · rintro x t ⟨h0, h1, h2, h3, h4, h5, h6⟩
    exact hN1 x t h0 h1 h3 h4 h5 h2 h6
  · rw [a1, a2, a3, a4]; exact ⟨hi.1, hi.2.1, hi.2.2, hs.2.2.2, ht.2.2.2, hs.1, hs.2.1, hs.2.2.1, ht.1, ht.2.1, ht.2.2.1, hD⟩
  · rintro x y u v ⟨h0, h1, h2, h3, h4, h5, h6, h7, h8, h9, h10, h11⟩
    rw [a1, a2, a3, a4]
    by_cases e : x < i ∨ (x = i ∧ y < j)
    · exact absurd h11 (hN2 x y u v h0 h1 h2 e h5 h6 h7 h3 h8 h9 h10 h4)
    · by_cases e2 : x = i ∧ y = j
      · obtain ⟨e2, e3⟩ := e2
        rw [e2, e3] at h11
        rw [e2] at h3 h7
        rw [e3] at h4 h10
        by_cases e4 : u < s
        · exact absurd h11 (hN3 u v h5 e4 h7 h3 h8 h9 h10 h4)
        · by_cases e5 : u = s
          · rw [e5] at h11
            by_cases e6 : v < t
            · exact absurd h11 (hN4 v h8 e6 h10 h4)
            · exact Or.inr ⟨e2.symm, Or.inr ⟨e3.symm, Or.inr ⟨e5.symm, by omega⟩⟩⟩
          · exact Or.inr ⟨e2.symm, Or.inr ⟨e3.symm, Or.inl (by omega)⟩⟩
      · omega
theorem fw3 {D : (Int → Int) → Prop} {pg ans : Int → Int} {n : Int} (hn : n ≤ 12) (hNE : ¬ D pg) (hN1 : ∀ x t, 0 ≤ x → x < n → 0 ≤ t → t < 29 → ¬ t = pg x → ¬ pg x = 29 → ¬ D (up pg x t)) (hN2 : ∀ x y s t, 0 ≤ x → x < y → y < n → 0 ≤ s → s < 29 → ¬ s = pg x → ¬ pg x = 29 → 0 ≤ t → t < 29 → ¬ t = pg y → ¬ pg y = 29 → ¬ D (up (up pg x s) y t)) (h : ∀ w, 0 ≤ w → w ≤ 4 → ans w = -1) : FewP D pg n ans := by
  refine Or.inr (Or.inr (Or.inr (Or.inr ⟨hn, hNE, ?_, ?_, h⟩)))
  · rintro x t ⟨h0, h1, h2, h3, h4, h5, h6⟩
    exact hN1 x t h0 h1 h3 h4 h5 h2 h6
  · rintro x y u v ⟨h0, h1, h2, h3, h4, h5, h6, h7, h8, h9, h10, h11⟩
    exact hN2 x y u v h0 h1 h2 h5 h6 h7 h3 h8 h9 h10 h4 h11
set_option maxRecDepth 100000 in
set_option maxHeartbeats 4000000 in
theorem k_seek (hd : 7 ≤ d) (hpg : rowB (f (fv 10 1) 0) 60 (f 11)) (hhu : 0 ≤ (f (fv 62 11) 0) ∧ (f (fv 62 11) 0) < 8) (hcb : (coB f)) (hst : ∀ o, 0 ≤ o → o < 8 → (f 4 o) = 0 ∨ (f 4 o) = 1) (hbr : ∀ o, 0 ≤ o → o < 8 → 0 ≤ (f 3 o) ∧ (f 3 o) ≤ 99) (hl : (lC f)) (hA : lwask (f (fv 15 5) 0) (lwC f)) (hday : 0 ≤ (f (fv 1 15) 0) ∧ (f (fv 1 15) 0) ≤ 9999) (hmo : mOK (lwC f) g) (k0 : ∀ f1 : iF, ∀ g1 : iG, (f1 (fv 62 0) 0 = 1) → (FewP (fun row => alE (aC f) (f 7) (f (fv 1 15) 0) (lwC f) (f 3) (f 4) (f 8) (f (fv 1 0) 0) row (f (fv 10 1) 0)) (f 11) (f (fv 10 1) 0) (f1 63)) → (0 ≤ f1 (fv 62 11) 0 ∧ f1 (fv 62 11) 0 < 8) → (mOK (lwC f) g1) → Q none (mx [55, 56, 57, 58, 63, 65, 66, 67, 68, 69, 70, 71, fv 62 0, fv 62 11, fv 64 1] f f1) g1) : wq d 160 [iR 62] f g Q := by
  obtain ⟨d, rfl⟩ : ∃ e, d = e + 1 := ⟨d - 1, by omega⟩
  refine i_meth [(27, 1), (38, 2), (57, 2), (71, 4), (78, 5)] (fun n j lv st f' g' => (j = 27 ∧ ∃ (f1 : iF) (g1 : iG), lv = [some (iR 62)] ∧ st = [] ∧ f' = (mx [55, 56, 57, 58, 63, 65, 66, 67, 68, 69, 70, 71, fv 62 0, fv 62 11, fv 64 1] f f1) ∧ g1 = g' ∧ (f (fv 10 1) 0 ≤ 12) ∧ (f1 (fv 64 1) 0 = f (fv 10 1) 0) ∧ (∀ w, 0 ≤ w → w ≤ 4 → f1 63 w = -1) ∧ (f1 (fv 62 0) 0 = 1) ∧ (∀ s, 0 ≤ s → s < 29 → f1 55 s = b1 (aC f s)) ∧ (∀ o, 0 ≤ o → o < 8 → lsP (f 4) (f 8) (f 7) (f 3) (f (fv 1 0) 0) o (f1 68 o) ∧ 0 ≤ f1 68 o ∧ f1 68 o ≤ 99 ∧ 0 ≤ f1 69 o ∧ f1 69 o ≤ 99) ∧ (∃ mo, (0 ≤ mo ∧ mo ≤ 99) ∧ (∀ fa, bnd fa (bdF (f (fv 1 15) 0) (f (fv 10 1) 0)) → payM fa (lwC f) ≤ mo) ∧ ∀ o, 0 ≤ o → o < 8 → f1 69 o = ndI (f1 68 o) mo) ∧ (∀ o, 0 ≤ o → o < f (fv 10 1) 0 → 0 ≤ f1 67 o ∧ f1 67 o ≤ 29 ∧ chP (aC f) (f 11 o) (f1 66) (o * 29) (f1 67 o) 29) ∧ (0 ≤ f1 (fv 62 11) 0 ∧ f1 (fv 62 11) 0 < 8) ∧ (mOK (lwC f) g1) ∧ (∀ k, 0 ≤ k → k < f (fv 10 1) 0 → f1 65 k = f 11 k) ∧ (n : Int) = 3984) ∨ (j = 38 ∧ ∃ (i : Int) (f1 : iF) (g1 : iG), lv = [some (iR 62), some (iI i)] ∧ st = [] ∧ f' = (mx [55, 56, 57, 58, 63, 65, 66, 67, 68, 69, 70, 71, fv 62 0, fv 62 11, fv 64 1] f f1) ∧ g1 = g' ∧ (f (fv 10 1) 0 ≤ 12) ∧ (f1 (fv 64 1) 0 = f (fv 10 1) 0) ∧ (∀ w, 0 ≤ w → w ≤ 4 → f1 63 w = -1) ∧ (f1 (fv 62 0) 0 = 1) ∧ (∀ s, 0 ≤ s → s < 29 → f1 55 s = b1 (aC f s)) ∧ (∀ o, 0 ≤ o → o < 8 → lsP (f 4) (f 8) (f 7) (f 3) (f (fv 1 0) 0) o (f1 68 o) ∧ 0 ≤ f1 68 o ∧ f1 68 o ≤ 99 ∧ 0 ≤ f1 69 o ∧ f1 69 o ≤ 99) ∧ (∃ mo, (0 ≤ mo ∧ mo ≤ 99) ∧ (∀ fa, bnd fa (bdF (f (fv 1 15) 0) (f (fv 10 1) 0)) → payM fa (lwC f) ≤ mo) ∧ ∀ o, 0 ≤ o → o < 8 → f1 69 o = ndI (f1 68 o) mo) ∧ (∀ o, 0 ≤ o → o < f (fv 10 1) 0 → 0 ≤ f1 67 o ∧ f1 67 o ≤ 29 ∧ chP (aC f) (f 11 o) (f1 66) (o * 29) (f1 67 o) 29) ∧ (0 ≤ f1 (fv 62 11) 0 ∧ f1 (fv 62 11) 0 < 8) ∧ (mOK (lwC f) g1) ∧ (∀ k, 0 ≤ k → k < f (fv 10 1) 0 → f1 65 k = f 11 k) ∧ (0 ≤ i ∧ i ≤ f (fv 10 1) 0) ∧ (¬ fdP (f1 68) (aC f) (f 7) (f (fv 1 15) 0) (lwC f) (f 11) (f (fv 10 1) 0)) ∧ (∀ x s, 0 ≤ x → x < i → 0 ≤ s → s < 29 → ¬ s = f 11 x → ¬ f 11 x = 29 → ¬ fdP (f1 68) (aC f) (f 7) (f (fv 1 15) 0) (lwC f) (up (f 11) x s) (f (fv 10 1) 0)) ∧ (n : Int) = 3972 + 12 - i) ∨ (j = 57 ∧ ∃ (i : Int) (f1 : iF) (g1 : iG), lv = [some (iR 62), some (iI i)] ∧ st = [] ∧ f' = (mx [55, 56, 57, 58, 63, 65, 66, 67, 68, 69, 70, 71, fv 62 0, fv 62 11, fv 64 1] f f1) ∧ g1 = g' ∧ (f (fv 10 1) 0 ≤ 12) ∧ (f1 (fv 64 1) 0 = f (fv 10 1) 0) ∧ (∀ w, 0 ≤ w → w ≤ 4 → f1 63 w = -1) ∧ (f1 (fv 62 0) 0 = 1) ∧ (∀ s, 0 ≤ s → s < 29 → f1 55 s = b1 (aC f s)) ∧ (∀ o, 0 ≤ o → o < 8 → lsP (f 4) (f 8) (f 7) (f 3) (f (fv 1 0) 0) o (f1 68 o) ∧ 0 ≤ f1 68 o ∧ f1 68 o ≤ 99 ∧ 0 ≤ f1 69 o ∧ f1 69 o ≤ 99) ∧ (∃ mo, (0 ≤ mo ∧ mo ≤ 99) ∧ (∀ fa, bnd fa (bdF (f (fv 1 15) 0) (f (fv 10 1) 0)) → payM fa (lwC f) ≤ mo) ∧ ∀ o, 0 ≤ o → o < 8 → f1 69 o = ndI (f1 68 o) mo) ∧ (∀ o, 0 ≤ o → o < f (fv 10 1) 0 → 0 ≤ f1 67 o ∧ f1 67 o ≤ 29 ∧ chP (aC f) (f 11 o) (f1 66) (o * 29) (f1 67 o) 29) ∧ (0 ≤ f1 (fv 62 11) 0 ∧ f1 (fv 62 11) 0 < 8) ∧ (mOK (lwC f) g1) ∧ (∀ k, 0 ≤ k → k < f (fv 10 1) 0 → f1 65 k = f 11 k) ∧ (0 ≤ i ∧ i ≤ f (fv 10 1) 0) ∧ (¬ fdP (f1 68) (aC f) (f 7) (f (fv 1 15) 0) (lwC f) (f 11) (f (fv 10 1) 0)) ∧ (∀ x s, 0 ≤ x → x < f (fv 10 1) 0 → 0 ≤ s → s < 29 → ¬ s = f 11 x → ¬ f 11 x = 29 → ¬ fdP (f1 68) (aC f) (f 7) (f (fv 1 15) 0) (lwC f) (up (f 11) x s) (f (fv 10 1) 0)) ∧ (∀ x y s t, 0 ≤ x → x < y → y < f (fv 10 1) 0 → x < i → 0 ≤ s → s < 29 → ¬ s = f 11 x → ¬ f 11 x = 29 → 0 ≤ t → t < 29 → ¬ t = f 11 y → ¬ f 11 y = 29 → ¬ fdP (f1 68) (aC f) (f 7) (f (fv 1 15) 0) (lwC f) (up (up (f 11) x s) y t) (f (fv 10 1) 0)) ∧ (n : Int) = 331 * (12 - i)) ∨ (j = 71 ∧ ∃ (i : Int) (was9 : Int) (jj9 : Int) (f1 : iF) (g1 : iG), lv = [some (iR 62), some (iI i), some (iI was9), some (iI jj9)] ∧ st = [] ∧ f' = (mx [55, 56, 57, 58, 63, 65, 66, 67, 68, 69, 70, 71, fv 62 0, fv 62 11, fv 64 1] f f1) ∧ g1 = g' ∧ (f (fv 10 1) 0 ≤ 12) ∧ (f1 (fv 64 1) 0 = f (fv 10 1) 0) ∧ (∀ w, 0 ≤ w → w ≤ 4 → f1 63 w = -1) ∧ (f1 (fv 62 0) 0 = 1) ∧ (∀ s, 0 ≤ s → s < 29 → f1 55 s = b1 (aC f s)) ∧ (∀ o, 0 ≤ o → o < 8 → lsP (f 4) (f 8) (f 7) (f 3) (f (fv 1 0) 0) o (f1 68 o) ∧ 0 ≤ f1 68 o ∧ f1 68 o ≤ 99 ∧ 0 ≤ f1 69 o ∧ f1 69 o ≤ 99) ∧ (∃ mo, (0 ≤ mo ∧ mo ≤ 99) ∧ (∀ fa, bnd fa (bdF (f (fv 1 15) 0) (f (fv 10 1) 0)) → payM fa (lwC f) ≤ mo) ∧ ∀ o, 0 ≤ o → o < 8 → f1 69 o = ndI (f1 68 o) mo) ∧ (∀ o, 0 ≤ o → o < f (fv 10 1) 0 → 0 ≤ f1 67 o ∧ f1 67 o ≤ 29 ∧ chP (aC f) (f 11 o) (f1 66) (o * 29) (f1 67 o) 29) ∧ (0 ≤ f1 (fv 62 11) 0 ∧ f1 (fv 62 11) 0 < 8) ∧ (mOK (lwC f) g1) ∧ ((∀ k, 0 ≤ k → k < f (fv 10 1) 0 → ¬ k = i → f1 65 k = f 11 k) ∧ 0 ≤ f1 65 i ∧ f1 65 i ≤ 29 ∧ was9 = f 11 i) ∧ (0 ≤ i ∧ i < jj9 ∧ jj9 ≤ f (fv 10 1) 0) ∧ (¬ fdP (f1 68) (aC f) (f 7) (f (fv 1 15) 0) (lwC f) (f 11) (f (fv 10 1) 0)) ∧ (∀ x s, 0 ≤ x → x < f (fv 10 1) 0 → 0 ≤ s → s < 29 → ¬ s = f 11 x → ¬ f 11 x = 29 → ¬ fdP (f1 68) (aC f) (f 7) (f (fv 1 15) 0) (lwC f) (up (f 11) x s) (f (fv 10 1) 0)) ∧ (∀ x y s t, 0 ≤ x → x < y → y < f (fv 10 1) 0 → (x < i ∨ (x = i ∧ y < jj9)) → 0 ≤ s → s < 29 → ¬ s = f 11 x → ¬ f 11 x = 29 → 0 ≤ t → t < 29 → ¬ t = f 11 y → ¬ f 11 y = 29 → ¬ fdP (f1 68) (aC f) (f 7) (f (fv 1 15) 0) (lwC f) (up (up (f 11) x s) y t) (f (fv 10 1) 0)) ∧ (n : Int) = 331 * (12 - i) - 30 * (jj9 - i - 1)) ∨ (j = 78 ∧ ∃ (i : Int) (was9 : Int) (jj9 : Int) (k9 : Int) (f1 : iF) (g1 : iG), lv = [some (iR 62), some (iI i), some (iI was9), some (iI jj9), some (iI k9)] ∧ st = [] ∧ f' = (mx [55, 56, 57, 58, 63, 65, 66, 67, 68, 69, 70, 71, fv 62 0, fv 62 11, fv 64 1] f f1) ∧ g1 = g' ∧ (f (fv 10 1) 0 ≤ 12) ∧ (f1 (fv 64 1) 0 = f (fv 10 1) 0) ∧ (∀ w, 0 ≤ w → w ≤ 4 → f1 63 w = -1) ∧ (f1 (fv 62 0) 0 = 1) ∧ (∀ s, 0 ≤ s → s < 29 → f1 55 s = b1 (aC f s)) ∧ (∀ o, 0 ≤ o → o < 8 → lsP (f 4) (f 8) (f 7) (f 3) (f (fv 1 0) 0) o (f1 68 o) ∧ 0 ≤ f1 68 o ∧ f1 68 o ≤ 99 ∧ 0 ≤ f1 69 o ∧ f1 69 o ≤ 99) ∧ (∃ mo, (0 ≤ mo ∧ mo ≤ 99) ∧ (∀ fa, bnd fa (bdF (f (fv 1 15) 0) (f (fv 10 1) 0)) → payM fa (lwC f) ≤ mo) ∧ ∀ o, 0 ≤ o → o < 8 → f1 69 o = ndI (f1 68 o) mo) ∧ (∀ o, 0 ≤ o → o < f (fv 10 1) 0 → 0 ≤ f1 67 o ∧ f1 67 o ≤ 29 ∧ chP (aC f) (f 11 o) (f1 66) (o * 29) (f1 67 o) 29) ∧ (0 ≤ f1 (fv 62 11) 0 ∧ f1 (fv 62 11) 0 < 8) ∧ (mOK (lwC f) g1) ∧ ((∀ k, 0 ≤ k → k < f (fv 10 1) 0 → ¬ k = i → f1 65 k = f 11 k) ∧ 0 ≤ f1 65 i ∧ f1 65 i ≤ 29 ∧ was9 = f 11 i) ∧ (0 ≤ i ∧ i < jj9 ∧ jj9 < f (fv 10 1) 0) ∧ (0 ≤ k9 ∧ k9 ≤ f1 67 i) ∧ (¬ fdP (f1 68) (aC f) (f 7) (f (fv 1 15) 0) (lwC f) (f 11) (f (fv 10 1) 0)) ∧ (∀ x s, 0 ≤ x → x < f (fv 10 1) 0 → 0 ≤ s → s < 29 → ¬ s = f 11 x → ¬ f 11 x = 29 → ¬ fdP (f1 68) (aC f) (f 7) (f (fv 1 15) 0) (lwC f) (up (f 11) x s) (f (fv 10 1) 0)) ∧ (∀ x y s t, 0 ≤ x → x < y → y < f (fv 10 1) 0 → (x < i ∨ (x = i ∧ y < jj9)) → 0 ≤ s → s < 29 → ¬ s = f 11 x → ¬ f 11 x = 29 → 0 ≤ t → t < 29 → ¬ t = f 11 y → ¬ f 11 y = 29 → ¬ fdP (f1 68) (aC f) (f 7) (f (fv 1 15) 0) (lwC f) (up (up (f 11) x s) y t) (f (fv 10 1) 0)) ∧ (∀ x t, 0 ≤ x → x < k9 → 0 ≤ t → t < 29 → ¬ t = f 11 jj9 → ¬ f 11 jj9 = 29 → ¬ fdP (f1 68) (aC f) (f 7) (f (fv 1 15) 0) (lwC f) (up (up (f 11) i (f1 66 (i * 29 + x))) jj9 t) (f (fv 10 1) 0)) ∧ (n : Int) = 331 * (12 - i) - 30 * (jj9 - i - 1) - k9)) 3984 (by omega) rfl rfl (fun n j lv st f' g' hn hI O J hO hF hB => ?_) (fun hvs hin O J hO hF => ?_)
  · rcases hI with hI | hI | hI | hI | hI
    · obtain ⟨rfl, f1, g1, rfl, rfl, rfl, rfl, hn12, hN, hAns, hKn, hAb, hLs, hM2, hCh, hh, hmo1, hRow, hm⟩ := hI
      have hpg1 := hpg.1
      have hlsS : ∀ o, 0 ≤ o → o < 8 → 0 ≤ f1 68 o ∧ f1 68 o ≤ 99 := fun o h0 h1 => ⟨(hLs o h0 h1).2.1, (hLs o h0 h1).2.2.1⟩
      have hndS : ∀ o, 0 ≤ o → o < 8 → 0 ≤ f1 69 o ∧ f1 69 o ≤ 99 := fun o h0 h1 => (hLs o h0 h1).2.2.2
      have habS : abOK (mx [55, 56, 57, 58, 63, 65, 66, 67, 68, 69, 70, 71, fv 62 0, fv 62 11, fv 64 1] f f1) := fun s h0 h1 => hAb s h0 h1
      have hM2S := hM2
      rw [← hN] at hM2S
      have hrwS : rowB (f1 (fv 64 1) 0) 12 (f1 65) := ⟨by omega, fun x h0 h1 => by rw [hRow x h0 (by omega)]; exact hpg.2 x h0 (by omega)⟩
      refine hO (k_feeds (by omega) (show rowB (f1 (fv 64 1) 0) 12 (f1 65) from hrwS) (show ∀ o, 0 ≤ o → o < 8 → 0 ≤ (f1 68 o) ∧ (f1 68 o) ≤ 99 from hlsS) (show 0 ≤ (f1 (fv 62 11) 0) ∧ (f1 (fv 62 11) 0) < 8 from hh) (show (coB f) from hcb) (show (abOK (mx [55, 56, 57, 58, 63, 65, 66, 67, 68, 69, 70, 71, fv 62 0, fv 62 11, fv 64 1] f f1)) from habS) (show (lC f) from hl) (show lwask (f (fv 15 5) 0) (lwC f) from hA) (show 0 ≤ (f (fv 1 15) 0) ∧ (f (fv 1 15) 0) ≤ 9999 from hday) (show mOK (lwC f) g1 from hmo1) (fun f1_1 g1_2 (hh_3 : ∀ o, 0 ≤ o → o < 8 → (f1 68 o) ≤ enI (aC f) (f 7) (f (fv 1 15) 0) (lwC f) (f1 65) (f1 (fv 64 1) 0) o) (hh_4 : 0 ≤ f1_1 (fv 62 11) 0 ∧ f1_1 (fv 62 11) 0 < 8) (hh_5 : mOK (lwC f) g1_2) => ?_) (fun f1_6 g1_7 (hh_8 : ¬ ∀ o, 0 ≤ o → o < 8 → (f1 68 o) ≤ enI (aC f) (f 7) (f (fv 1 15) 0) (lwC f) (f1 65) (f1 (fv 64 1) 0) o) (hh_9 : 0 ≤ f1_6 (fv 62 11) 0 ∧ f1_6 (fv 62 11) 0 < 8) (hh_10 : mOK (lwC f) g1_7) => ?_))
      · have hfd := hh_3
        have hh9 := hh_4
        have hmo9 := hh_5
        refine ⟨fun h => absurd (show (1 : Int) = 0 from h) (by decide), fun _ => ?_⟩
        refine ⟨show 0 ≤ (0 : Int) ∧ 0 < 5 from by decide, ?_⟩
        have hDE : ∀ r9, (fun r9 => fdP (f1 68) (aC f) (f 7) (f (fv 1 15) 0) (lwC f) (r9) (f (fv 10 1) 0)) r9 ↔ (fun row => alE (aC f) (f 7) (f (fv 1 15) 0) (lwC f) (f 3) (f 4) (f 8) (f (fv 1 0) 0) row (f (fv 10 1) 0)) r9 := fun r9 => fd_al (by omega) (by have := hcb.1; omega) (fun o h0 h1 => (hLs o h0 h1).1)
        have hF9 : FewP (fun r9 => fdP (f1 68) (aC f) (f 7) (f (fv 1 15) 0) (lwC f) (r9) (f (fv 10 1) 0)) (f 11) (f (fv 10 1) 0) ((wv (mx [56, 57, 58, 71, fv 62 11] f1 f1_1) 63 0 0) 63) := Or.inr (Or.inl ⟨hn12, fd_cg hRow (by rw [hN] at hfd; exact hfd), wv_s, fun w h0 h1 => (wv_k (by omega)).trans (hAns w (by omega) h1)⟩)
        have hk := k0 ((wv (mx [56, 57, 58, 71, fv 62 11] f1 f1_1) 63 0 0)) g1_2 (hKn) (fwE hDE hF9) hh9 hmo9
        rw [show mx [55, 56, 57, 58, 63, 65, 66, 67, 68, 69, 70, 71, fv 62 0, fv 62 11, fv 64 1] f (wv (mx [56, 57, 58, 71, fv 62 11] f1 f1_1) 63 0 0) = (wv (mx [56, 57, 58, 71, fv 62 11] (mx [55, 56, 57, 58, 63, 65, 66, 67, 68, 69, 70, 71, fv 62 0, fv 62 11, fv 64 1] f f1) f1_1) 63 0 0) from ((mx_wv rfl (mx_mx rfl rfl))).symm] at hk
        exact hk
      · have hnf := hh_8
        have hh9 := hh_9
        have hmo9 := hh_10
        refine ⟨fun _ => ?_, fun h => absurd (show (0 : Int) = 0 from by decide) h⟩
        refine hF (3972 + 12 - 0 : Int).toNat ?_ (Or.inr (Or.inl ⟨rfl, 0, (mx [56, 57, 58, 71, fv 62 11] f1 f1_6), g1_7, rfl, rfl, (mx_mx rfl rfl), rfl, ?_, ?_, ?_, ?_, ?_, ?_, ?_, ?_, ?_, ?_, ?_, ?_, ?_, ?_, ?_⟩))
        · omega
        · exact hn12
        · exact hN
        · exact hAns
        · exact hKn
        · exact hAb
        · exact hLs
        · exact hM2
        · exact hCh
        · first | exact hh9 | exact hh
        · first | exact hmo9 | exact hmo1
        · exact hRow
        · omega
        · intro hE
          exact hnf (by rw [hN]; exact fd_cg (fun k h0 h1 => (hRow k h0 h1).symm) hE)
        · intro x s h0 h1; omega
        · omega
    · obtain ⟨rfl, i, f1, g1, rfl, rfl, rfl, rfl, hn12, hN, hAns, hKn, hAb, hLs, hM2, hCh, hh, hmo1, hRow, hi, hNE, hN1, hm⟩ := hI
      have hpg1 := hpg.1
      have hlsS : ∀ o, 0 ≤ o → o < 8 → 0 ≤ f1 68 o ∧ f1 68 o ≤ 99 := fun o h0 h1 => ⟨(hLs o h0 h1).2.1, (hLs o h0 h1).2.2.1⟩
      have hndS : ∀ o, 0 ≤ o → o < 8 → 0 ≤ f1 69 o ∧ f1 69 o ≤ 99 := fun o h0 h1 => (hLs o h0 h1).2.2.2
      have habS : abOK (mx [55, 56, 57, 58, 63, 65, 66, 67, 68, 69, 70, 71, fv 62 0, fv 62 11, fv 64 1] f f1) := fun s h0 h1 => hAb s h0 h1
      have hM2S := hM2
      rw [← hN] at hM2S
      have hrwS : rowB (f1 (fv 64 1) 0) 12 (f1 65) := ⟨by omega, fun x h0 h1 => by rw [hRow x h0 (by omega)]; exact hpg.2 x h0 (by omega)⟩
      refine ⟨fun (hh_11 : i < f1 (fv 64 1) 0) => ?_, fun (hh_11 : ¬ i < f1 (fv 64 1) 0) => ?_⟩
      · refine hO (k_sets (by omega) (show 0 ≤ i ∧ i < (f1 (fv 64 1) 0) from by omega) (show 0 ≤ (f1 67 i) ∧ (f1 67 i) ≤ 29 ∧ chP (aC f) (f1 65 i) (f1 66) (i * 29) (f1 67 i) 29 from by have q := hCh i (by omega) (by omega); rw [← hRow i (by omega) (by omega)] at q; exact q) (show ∀ o, 0 ≤ o → o < 8 → 0 ≤ (f1 69 o) ∧ (f1 69 o) ≤ 99 from hndS) (show ∃ mo, (0 ≤ mo ∧ mo ≤ 99) ∧ (∀ fa, bnd fa (bdF (f (fv 1 15) 0) (f1 (fv 64 1) 0)) → payM fa (lwC f) ≤ mo) ∧ ∀ o, 0 ≤ o → o < 8 → (f1 69 o) = ndI (f1 68 o) mo from hM2S) (show rowB (f1 (fv 64 1) 0) 12 (f1 65) from hrwS) (show ∀ o, 0 ≤ o → o < 8 → 0 ≤ (f1 68 o) ∧ (f1 68 o) ≤ 99 from hlsS) (show 0 ≤ (f1 (fv 62 11) 0) ∧ (f1 (fv 62 11) 0) < 8 from hh) (show (coB f) from hcb) (show (abOK (mx [55, 56, 57, 58, 63, 65, 66, 67, 68, 69, 70, 71, fv 62 0, fv 62 11, fv 64 1] f f1)) from habS) (show (lC f) from hl) (show lwask (f (fv 15 5) 0) (lwC f) from hA) (show 0 ≤ (f (fv 1 15) 0) ∧ (f (fv 1 15) 0) ≤ 9999 from hday) (show mOK (lwC f) g1 from hmo1) (fun sg_12 f1_13 g1_14 (hh_15 : f1_13 65 = up (f1 65) i sg_12) (hh_16 : 0 ≤ sg_12 ∧ sg_12 < 29 ∧ ¬ sg_12 = (f1 65 i) ∧ ¬ (f1 65 i) = 29) (hh_17 : fdP (f1 68) (aC f) (f 7) (f (fv 1 15) 0) (lwC f) (up (f1 65) i sg_12) (f1 (fv 64 1) 0)) (hh_18 : ∀ t, 0 ≤ t → t < sg_12 → ¬ t = (f1 65 i) → ¬ (f1 65 i) = 29 → ¬ fdP (f1 68) (aC f) (f 7) (f (fv 1 15) 0) (lwC f) (up (f1 65) i t) (f1 (fv 64 1) 0)) (hh_19 : 0 ≤ f1_13 (fv 62 11) 0 ∧ f1_13 (fv 62 11) 0 < 8) (hh_20 : mOK (lwC f) g1_14) => ?_) (fun f1_21 g1_22 (hh_23 : f1_21 65 = (f1 65)) (hh_24 : ∀ t, 0 ≤ t → t < 29 → ¬ t = (f1 65 i) → ¬ (f1 65 i) = 29 → ¬ fdP (f1 68) (aC f) (f 7) (f (fv 1 15) 0) (lwC f) (up (f1 65) i t) (f1 (fv 64 1) 0)) (hh_25 : 0 ≤ f1_21 (fv 62 11) 0 ∧ f1_21 (fv 62 11) 0 < 8) (hh_26 : mOK (lwC f) g1_22) => ?_))
        · have hs0 := hh_15
          have hs1 := hh_16
          have hs2 := hh_17
          have hs3 := hh_18
          have hh9 := hh_19
          have hmo9 := hh_20
          have hrI := hRow i (by omega) (by omega)
          rw [hrI] at hs1 hs3
          rw [hN] at hs2 hs3
          have hz2 := fd_cg (up_cg hRow) hs2
          have hz3 : ∀ t, 0 ≤ t → t < sg_12 → ¬ t = f 11 i → ¬ f 11 i = 29 → ¬ fdP (f1 68) (aC f) (f 7) (f (fv 1 15) 0) (lwC f) (up (f 11) i t) (f (fv 10 1) 0) := fun t h0 h1 h2 h3 hE => hs3 t h0 h1 h2 h3 (fd_cg (up_cg (fun k a b => (hRow k a b).symm)) hE)
          refine ⟨fun h => absurd (show (1 : Int) = 0 from h) (by decide), fun _ => ?_⟩
          refine hO (k_tell (by omega) (show 0 ≤ i ∧ i < 12 from by omega) (show -1 ≤ (-1) ∧ (-1) < 12 from by omega) (fun (hh_27 : (-1) = (-1)) => ?_) (fun (hh_28 : ¬ (-1) = (-1)) => ?_))
          · have hDE : ∀ r9, (fun r9 => fdP (f1 68) (aC f) (f 7) (f (fv 1 15) 0) (lwC f) (r9) (f (fv 10 1) 0)) r9 ↔ (fun row => alE (aC f) (f 7) (f (fv 1 15) 0) (lwC f) (f 3) (f 4) (f 8) (f (fv 1 0) 0) row (f (fv 10 1) 0)) r9 := fun r9 => fd_al (by omega) (by have := hcb.1; omega) (fun o h0 h1 => (hLs o h0 h1).1)
            have hF9 : FewP (fun r9 => fdP (f1 68) (aC f) (f 7) (f (fv 1 15) 0) (lwC f) (r9) (f (fv 10 1) 0)) (f 11) (f (fv 10 1) 0) ((wv (wv (wv (mx [56, 57, 58, 65, 70, 71, fv 62 11] f1 f1_13) 63 0 1) 63 1 i) 63 2 (f1_13 65 i)) 63) := fw1 hn12 hNE (by omega) hs1 hz2 hN1 hz3 rfl rfl ((congrFun hs0 i).trans up_s) (hAns 3 (by decide) (by decide)) (hAns 4 (by decide) (by decide))
            have hk := k0 ((wv (wv (wv (mx [56, 57, 58, 65, 70, 71, fv 62 11] f1 f1_13) 63 0 1) 63 1 i) 63 2 (f1_13 65 i))) g1_14 (hKn) (fwE hDE hF9) hh9 hmo9
            rw [show mx [55, 56, 57, 58, 63, 65, 66, 67, 68, 69, 70, 71, fv 62 0, fv 62 11, fv 64 1] f (wv (wv (wv (mx [56, 57, 58, 65, 70, 71, fv 62 11] f1 f1_13) 63 0 1) 63 1 i) 63 2 (f1_13 65 i)) = (wv (wv (wv (mx [56, 57, 58, 65, 70, 71, fv 62 11] (mx [55, 56, 57, 58, 63, 65, 66, 67, 68, 69, 70, 71, fv 62 0, fv 62 11, fv 64 1] f f1) f1_13) 63 0 1) 63 1 i) 63 2 (f1_13 65 i)) from ((mx_wv rfl (mx_wv rfl (mx_wv rfl (mx_mx rfl rfl))))).symm] at hk
            exact hk
          · omega
        · have hs0 := hh_23
          have hs1 := hh_24
          have hh9 := hh_25
          have hmo9 := hh_26
          refine ⟨fun _ => ?_, fun h => absurd (show (0 : Int) = 0 from by decide) h⟩
          refine ⟨show inr (i + 1) from by constructor <;> omega, ?_⟩
          refine hB (3972 + 12 - (i + 1) : Int).toNat ?_ (Or.inr (Or.inl ⟨rfl, (i + 1), (mx [56, 57, 58, 65, 70, 71, fv 62 11] f1 f1_21), g1_22, rfl, rfl, (mx_mx rfl rfl), rfl, ?_, ?_, ?_, ?_, ?_, ?_, ?_, ?_, ?_, ?_, ?_, ?_, ?_, ?_, ?_⟩))
          · omega
          · exact hn12
          · exact hN
          · exact hAns
          · exact hKn
          · exact hAb
          · exact hLs
          · exact hM2
          · exact hCh
          · first | exact hh9 | exact hh
          · first | exact hmo9 | exact hmo1
          · intro k h0 h1
            exact (congrFun hs0 k).trans (hRow k h0 h1)
          · omega
          · exact hNE
          · intro x s h0 h1 h2 h3 h4 h5 hE
            by_cases e : x = i
            · rw [e] at h4 h5 hE
              refine hs1 s h2 h3 (by rw [hRow i (by omega) (by omega)]; exact h4) (by rw [hRow i (by omega) (by omega)]; exact h5) ?_
              rw [hN]
              exact fd_cg (up_cg (fun k h0 h1 => (hRow k h0 h1).symm)) hE
            · exact hN1 x s h0 (by omega) h2 h3 h4 h5 hE
          · omega
      · refine hF (331 * (12 - 0) : Int).toNat ?_ (Or.inr (Or.inr (Or.inl ⟨rfl, 0, f1, g1, rfl, rfl, rfl, rfl, ?_, ?_, ?_, ?_, ?_, ?_, ?_, ?_, ?_, ?_, ?_, ?_, ?_, ?_, ?_, ?_⟩)))
        · omega
        · exact hn12
        · exact hN
        · exact hAns
        · exact hKn
        · exact hAb
        · exact hLs
        · exact hM2
        · exact hCh
        · first | exact hh9 | exact hh
        · first | exact hmo9 | exact hmo1
        · exact hRow
        · omega
        · exact hNE
        · exact fun x s h0 h1 => hN1 x s h0 (by omega)
        · intro x y s t h0 h1 h2 h3; omega
        · omega
    · obtain ⟨rfl, i, f1, g1, rfl, rfl, rfl, rfl, hn12, hN, hAns, hKn, hAb, hLs, hM2, hCh, hh, hmo1, hRow, hi, hNE, hN1, hN2, hm⟩ := hI
      have hpg1 := hpg.1
      have hlsS : ∀ o, 0 ≤ o → o < 8 → 0 ≤ f1 68 o ∧ f1 68 o ≤ 99 := fun o h0 h1 => ⟨(hLs o h0 h1).2.1, (hLs o h0 h1).2.2.1⟩
      have hndS : ∀ o, 0 ≤ o → o < 8 → 0 ≤ f1 69 o ∧ f1 69 o ≤ 99 := fun o h0 h1 => (hLs o h0 h1).2.2.2
      have habS : abOK (mx [55, 56, 57, 58, 63, 65, 66, 67, 68, 69, 70, 71, fv 62 0, fv 62 11, fv 64 1] f f1) := fun s h0 h1 => hAb s h0 h1
      have hM2S := hM2
      rw [← hN] at hM2S
      have hrwS : rowB (f1 (fv 64 1) 0) 12 (f1 65) := ⟨by omega, fun x h0 h1 => by rw [hRow x h0 (by omega)]; exact hpg.2 x h0 (by omega)⟩
      refine ⟨fun (hh_29 : i < f1 (fv 64 1) 0) => ?_, fun (hh_29 : ¬ i < f1 (fv 64 1) 0) => ?_⟩
      · refine hO (k_get_rm (by omega) (show 0 ≤ i ∧ i < 12 from by omega) ?_)
        refine Or.inl ⟨show inr (i + 1) from by constructor <;> omega, ?_⟩
        refine hF (331 * (12 - i) - 30 * ((i + 1) - i - 1) : Int).toNat ?_ (Or.inr (Or.inr (Or.inr (Or.inl ⟨rfl, i, (f1 65 i), (i + 1), f1, g1, rfl, rfl, rfl, rfl, ?_, ?_, ?_, ?_, ?_, ?_, ?_, ?_, ?_, ?_, ?_, ?_, ?_, ?_, ?_, ?_⟩))))
        · omega
        · exact hn12
        · exact hN
        · exact hAns
        · exact hKn
        · exact hAb
        · exact hLs
        · exact hM2
        · exact hCh
        · first | exact hh9 | exact hh
        · first | exact hmo9 | exact hmo1
        · exact ⟨fun k h0 h1 _ => hRow k h0 h1, by show 0 ≤ f1 65 i; rw [hRow i (by omega) (by omega)]; exact (hpg.2 i (by omega) (by omega)).1, by show f1 65 i ≤ 29; rw [hRow i (by omega) (by omega)]; exact (hpg.2 i (by omega) (by omega)).2, hRow i (by omega) (by omega)⟩
        · omega
        · exact hNE
        · exact hN1
        · intro x y s t h0 h1 h2 h3
          exact hN2 x y s t h0 h1 h2 (by omega)
        · omega
      · have hDE : ∀ r9, (fun r9 => fdP (f1 68) (aC f) (f 7) (f (fv 1 15) 0) (lwC f) (r9) (f (fv 10 1) 0)) r9 ↔ (fun row => alE (aC f) (f 7) (f (fv 1 15) 0) (lwC f) (f 3) (f 4) (f 8) (f (fv 1 0) 0) row (f (fv 10 1) 0)) r9 := fun r9 => fd_al (by omega) (by have := hcb.1; omega) (fun o h0 h1 => (hLs o h0 h1).1)
        have hF9 : FewP (fun r9 => fdP (f1 68) (aC f) (f 7) (f (fv 1 15) 0) (lwC f) (r9) (f (fv 10 1) 0)) (f 11) (f (fv 10 1) 0) (f1 63) := fw3 hn12 hNE (fun x t h0 h1 => hN1 x t h0 (by omega)) (fun x y s t h0 h1 h2 => hN2 x y s t h0 h1 h2 (by omega)) hAns
        have hk := k0 (f1) g1 (hKn) (fwE hDE hF9) hh hmo1
        exact hk
    · obtain ⟨rfl, i, was9, jj9, f1, g1, rfl, rfl, rfl, rfl, hn12, hN, hAns, hKn, hAb, hLs, hM2, hCh, hh, hmo1, hRi, hi, hNE, hN1, hN2, hm⟩ := hI
      have hpg1 := hpg.1
      have hlsS : ∀ o, 0 ≤ o → o < 8 → 0 ≤ f1 68 o ∧ f1 68 o ≤ 99 := fun o h0 h1 => ⟨(hLs o h0 h1).2.1, (hLs o h0 h1).2.2.1⟩
      have hndS : ∀ o, 0 ≤ o → o < 8 → 0 ≤ f1 69 o ∧ f1 69 o ≤ 99 := fun o h0 h1 => (hLs o h0 h1).2.2.2
      have habS : abOK (mx [55, 56, 57, 58, 63, 65, 66, 67, 68, 69, 70, 71, fv 62 0, fv 62 11, fv 64 1] f f1) := fun s h0 h1 => hAb s h0 h1
      have hM2S := hM2
      rw [← hN] at hM2S
      have hrwS : rowB (f1 (fv 64 1) 0) 12 (f1 65) := ⟨by omega, fun x h0 h1 => by
        by_cases e : x = i
        · rw [e]; exact ⟨hRi.2.1, hRi.2.2.1⟩
        · rw [hRi.1 x h0 (by omega) e]; exact hpg.2 x h0 (by omega)⟩
      have hci := hCh i (by omega) (by omega)
      refine ⟨fun (hh_30 : jj9 < f1 (fv 64 1) 0) => ?_, fun (hh_30 : ¬ jj9 < f1 (fv 64 1) 0) => ?_⟩
      · refine hF (331 * (12 - i) - 30 * (jj9 - i - 1) - 0 : Int).toNat ?_ (Or.inr (Or.inr (Or.inr (Or.inr (⟨rfl, i, was9, jj9, 0, f1, g1, rfl, rfl, rfl, rfl, ?_, ?_, ?_, ?_, ?_, ?_, ?_, ?_, ?_, ?_, ?_, ?_, ?_, ?_, ?_, ?_, ?_, ?_⟩)))))
        · omega
        · exact hn12
        · exact hN
        · exact hAns
        · exact hKn
        · exact hAb
        · exact hLs
        · exact hM2
        · exact hCh
        · first | exact hh9 | exact hh
        · first | exact hmo9 | exact hmo1
        · exact hRi
        · omega
        · exact ⟨by omega, hci.1⟩
        · exact hNE
        · exact hN1
        · exact hN2
        · intro x t h0 h1; omega
        · omega
      · refine hO (k_put_rm (by omega) (show 0 ≤ i ∧ i < (f1 (fv 64 1) 0) from by omega) (show (f1 (fv 64 1) 0) ≤ 12 from by omega) ?_)
        refine ⟨show inr (i + 1) from by constructor <;> omega, ?_⟩
        refine hB (331 * (12 - (i + 1)) : Int).toNat ?_ (Or.inr (Or.inr (Or.inl ⟨rfl, (i + 1), (wv f1 65 i was9), g1, rfl, rfl, (mx_wv rfl rfl), rfl, ?_, ?_, ?_, ?_, ?_, ?_, ?_, ?_, ?_, ?_, ?_, ?_, ?_, ?_, ?_, ?_⟩)))
        · omega
        · exact hn12
        · exact hN
        · exact hAns
        · exact hKn
        · exact hAb
        · exact hLs
        · exact hM2
        · exact hCh
        · first | exact hh9 | exact hh
        · first | exact hmo9 | exact hmo1
        · intro k h0 h1
          by_cases e : k = i
          · rw [e]; exact wv_s.trans hRi.2.2.2
          · exact (wv_k e).trans (hRi.1 k h0 h1 e)
        · omega
        · exact hNE
        · exact hN1
        · intro x y s t h0 h1 h2 h3
          exact hN2 x y s t h0 h1 h2 (by omega)
        · omega
    · obtain ⟨rfl, i, was9, jj9, k9, f1, g1, rfl, rfl, rfl, rfl, hn12, hN, hAns, hKn, hAb, hLs, hM2, hCh, hh, hmo1, hRi, hi, hk, hNE, hN1, hN2, hN3, hm⟩ := hI
      have hpg1 := hpg.1
      have hlsS : ∀ o, 0 ≤ o → o < 8 → 0 ≤ f1 68 o ∧ f1 68 o ≤ 99 := fun o h0 h1 => ⟨(hLs o h0 h1).2.1, (hLs o h0 h1).2.2.1⟩
      have hndS : ∀ o, 0 ≤ o → o < 8 → 0 ≤ f1 69 o ∧ f1 69 o ≤ 99 := fun o h0 h1 => (hLs o h0 h1).2.2.2
      have habS : abOK (mx [55, 56, 57, 58, 63, 65, 66, 67, 68, 69, 70, 71, fv 62 0, fv 62 11, fv 64 1] f f1) := fun s h0 h1 => hAb s h0 h1
      have hM2S := hM2
      rw [← hN] at hM2S
      have hrwS : rowB (f1 (fv 64 1) 0) 12 (f1 65) := ⟨by omega, fun x h0 h1 => by
        by_cases e : x = i
        · rw [e]; exact ⟨hRi.2.1, hRi.2.2.1⟩
        · rw [hRi.1 x h0 (by omega) e]; exact hpg.2 x h0 (by omega)⟩
      have hci := hCh i (by omega) (by omega)
      refine hO (k_choicesAt (by omega) (show 0 ≤ i ∧ i < 12 from by omega) ?_)
      refine ⟨fun (hh_31 : k9 < (f1 67 i)) => ?_, fun (hh_31 : ¬ k9 < (f1 67 i)) => ?_⟩
      · have hcv := hci.2.2.1 k9 (by omega) (by omega)
        refine Or.inl ⟨show inr (i * 29) from by constructor <;> omega, ?_⟩
        refine Or.inl ⟨show inr ((i * 29) + k9) from by constructor <;> omega, ?_⟩
        refine ⟨show 0 ≤ (((i * 29) + k9) : Int) ∧ ((i * 29) + k9) < 348 from by omega, ?_⟩
        refine hO (k_put_rm (by omega) (show 0 ≤ i ∧ i < (f1 (fv 64 1) 0) from by omega) (show (f1 (fv 64 1) 0) ≤ 12 from by omega) ?_)
        have hrw97 : rowB (f1 (fv 64 1) 0) 12 (wv (mx [55, 56, 57, 58, 63, 65, 66, 67, 68, 69, 70, 71, fv 62 0, fv 62 11, fv 64 1] f f1) 65 i (f1 66 (i * 29 + k9)) 65) := by rw [wv_up]; exact rowB_up hrwS ⟨hcv.1, by omega⟩
        refine hO (k_sets (by omega) (show 0 ≤ jj9 ∧ jj9 < (f1 (fv 64 1) 0) from by omega) (show 0 ≤ (f1 67 jj9) ∧ (f1 67 jj9) ≤ 29 ∧ chP (aC f) ((wv (mx [55, 56, 57, 58, 63, 65, 66, 67, 68, 69, 70, 71, fv 62 0, fv 62 11, fv 64 1] f f1) 65 i (f1 66 ((i * 29) + k9))) 65 jj9) (f1 66) (jj9 * 29) (f1 67 jj9) 29 from by have q := hCh jj9 (by omega) (by omega); rw [← hRi.1 jj9 (by omega) (by omega) (by omega)] at q; rw [wv_k (by omega)]; exact q) (show ∀ o, 0 ≤ o → o < 8 → 0 ≤ (f1 69 o) ∧ (f1 69 o) ≤ 99 from hndS) (show ∃ mo, (0 ≤ mo ∧ mo ≤ 99) ∧ (∀ fa, bnd fa (bdF (f (fv 1 15) 0) (f1 (fv 64 1) 0)) → payM fa (lwC f) ≤ mo) ∧ ∀ o, 0 ≤ o → o < 8 → (f1 69 o) = ndI (f1 68 o) mo from hM2S) (show rowB (f1 (fv 64 1) 0) 12 ((wv (mx [55, 56, 57, 58, 63, 65, 66, 67, 68, 69, 70, 71, fv 62 0, fv 62 11, fv 64 1] f f1) 65 i (f1 66 ((i * 29) + k9))) 65) from hrw97) (show ∀ o, 0 ≤ o → o < 8 → 0 ≤ (f1 68 o) ∧ (f1 68 o) ≤ 99 from hlsS) (show 0 ≤ (f1 (fv 62 11) 0) ∧ (f1 (fv 62 11) 0) < 8 from hh) (show (coB f) from hcb) (show (abOK (mx [55, 56, 57, 58, 63, 65, 66, 67, 68, 69, 70, 71, fv 62 0, fv 62 11, fv 64 1] f f1)) from habS) (show (lC f) from hl) (show lwask (f (fv 15 5) 0) (lwC f) from hA) (show 0 ≤ (f (fv 1 15) 0) ∧ (f (fv 1 15) 0) ≤ 9999 from hday) (show mOK (lwC f) g1 from hmo1) (fun sg_32 f1_33 g1_34 (hh_35 : f1_33 65 = up ((wv (mx [55, 56, 57, 58, 63, 65, 66, 67, 68, 69, 70, 71, fv 62 0, fv 62 11, fv 64 1] f f1) 65 i (f1 66 ((i * 29) + k9))) 65) jj9 sg_32) (hh_36 : 0 ≤ sg_32 ∧ sg_32 < 29 ∧ ¬ sg_32 = ((wv (mx [55, 56, 57, 58, 63, 65, 66, 67, 68, 69, 70, 71, fv 62 0, fv 62 11, fv 64 1] f f1) 65 i (f1 66 ((i * 29) + k9))) 65 jj9) ∧ ¬ ((wv (mx [55, 56, 57, 58, 63, 65, 66, 67, 68, 69, 70, 71, fv 62 0, fv 62 11, fv 64 1] f f1) 65 i (f1 66 ((i * 29) + k9))) 65 jj9) = 29) (hh_37 : fdP (f1 68) (aC f) (f 7) (f (fv 1 15) 0) (lwC f) (up ((wv (mx [55, 56, 57, 58, 63, 65, 66, 67, 68, 69, 70, 71, fv 62 0, fv 62 11, fv 64 1] f f1) 65 i (f1 66 ((i * 29) + k9))) 65) jj9 sg_32) (f1 (fv 64 1) 0)) (hh_38 : ∀ t, 0 ≤ t → t < sg_32 → ¬ t = ((wv (mx [55, 56, 57, 58, 63, 65, 66, 67, 68, 69, 70, 71, fv 62 0, fv 62 11, fv 64 1] f f1) 65 i (f1 66 ((i * 29) + k9))) 65 jj9) → ¬ ((wv (mx [55, 56, 57, 58, 63, 65, 66, 67, 68, 69, 70, 71, fv 62 0, fv 62 11, fv 64 1] f f1) 65 i (f1 66 ((i * 29) + k9))) 65 jj9) = 29 → ¬ fdP (f1 68) (aC f) (f 7) (f (fv 1 15) 0) (lwC f) (up ((wv (mx [55, 56, 57, 58, 63, 65, 66, 67, 68, 69, 70, 71, fv 62 0, fv 62 11, fv 64 1] f f1) 65 i (f1 66 ((i * 29) + k9))) 65) jj9 t) (f1 (fv 64 1) 0)) (hh_39 : 0 ≤ f1_33 (fv 62 11) 0 ∧ f1_33 (fv 62 11) 0 < 8) (hh_40 : mOK (lwC f) g1_34) => ?_) (fun f1_41 g1_42 (hh_43 : f1_41 65 = ((wv (mx [55, 56, 57, 58, 63, 65, 66, 67, 68, 69, 70, 71, fv 62 0, fv 62 11, fv 64 1] f f1) 65 i (f1 66 ((i * 29) + k9))) 65)) (hh_44 : ∀ t, 0 ≤ t → t < 29 → ¬ t = ((wv (mx [55, 56, 57, 58, 63, 65, 66, 67, 68, 69, 70, 71, fv 62 0, fv 62 11, fv 64 1] f f1) 65 i (f1 66 ((i * 29) + k9))) 65 jj9) → ¬ ((wv (mx [55, 56, 57, 58, 63, 65, 66, 67, 68, 69, 70, 71, fv 62 0, fv 62 11, fv 64 1] f f1) 65 i (f1 66 ((i * 29) + k9))) 65 jj9) = 29 → ¬ fdP (f1 68) (aC f) (f 7) (f (fv 1 15) 0) (lwC f) (up ((wv (mx [55, 56, 57, 58, 63, 65, 66, 67, 68, 69, 70, 71, fv 62 0, fv 62 11, fv 64 1] f f1) 65 i (f1 66 ((i * 29) + k9))) 65) jj9 t) (f1 (fv 64 1) 0)) (hh_45 : 0 ≤ f1_41 (fv 62 11) 0 ∧ f1_41 (fv 62 11) 0 < 8) (hh_46 : mOK (lwC f) g1_42) => ?_))
        · have hs0 := hh_35
          have hs1 := hh_36
          have hs2 := hh_37
          have hs3 := hh_38
          have hh9 := hh_39
          have hmo9 := hh_40
          have hrJ : wv (mx [55, 56, 57, 58, 63, 65, 66, 67, 68, 69, 70, 71, fv 62 0, fv 62 11, fv 64 1] f f1) 65 i (f1 66 (i * 29 + k9)) 65 jj9 = f 11 jj9 := (wv_k (by omega)).trans (hRi.1 jj9 (by omega) (by omega) (by omega))
          have hrU : ∀ k, 0 ≤ k → k < f (fv 10 1) 0 → wv (mx [55, 56, 57, 58, 63, 65, 66, 67, 68, 69, 70, 71, fv 62 0, fv 62 11, fv 64 1] f f1) 65 i (f1 66 (i * 29 + k9)) 65 k = up (f 11) i (f1 66 (i * 29 + k9)) k := by
            intro k a0 a1
            by_cases e2 : k = i
            · rw [e2, up_s, wv_s]
            · rw [up_n e2, wv_k e2]
              exact hRi.1 k a0 a1 e2
          rw [hrJ] at hs1 hs3
          rw [hN] at hs2 hs3
          have hz2 := fd_cg (up_cg hrU) hs2
          have hz3 : ∀ t, 0 ≤ t → t < sg_32 → ¬ t = f 11 jj9 → ¬ f 11 jj9 = 29 → ¬ fdP (f1 68) (aC f) (f 7) (f (fv 1 15) 0) (lwC f) (up (up (f 11) i (f1 66 (i * 29 + k9))) jj9 t) (f (fv 10 1) 0) := fun t h0 h1 h2 h3 hE => hs3 t h0 h1 h2 h3 (fd_cg (up_cg (fun k a b => (hrU k a b).symm)) hE)
          refine ⟨fun h => absurd (show (1 : Int) = 0 from h) (by decide), fun _ => ?_⟩
          refine hO (k_tell (by omega) (show 0 ≤ i ∧ i < 12 from by omega) (show -1 ≤ jj9 ∧ jj9 < 12 from by omega) (fun (hh_47 : jj9 = (-1)) => ?_) (fun (hh_48 : ¬ jj9 = (-1)) => ?_))
          · omega
          · have hDE : ∀ r9, (fun r9 => fdP (f1 68) (aC f) (f 7) (f (fv 1 15) 0) (lwC f) (r9) (f (fv 10 1) 0)) r9 ↔ (fun row => alE (aC f) (f 7) (f (fv 1 15) 0) (lwC f) (f 3) (f 4) (f 8) (f (fv 1 0) 0) row (f (fv 10 1) 0)) r9 := fun r9 => fd_al (by omega) (by have := hcb.1; omega) (fun o h0 h1 => (hLs o h0 h1).1)
            have hF9 : FewP (fun r9 => fdP (f1 68) (aC f) (f 7) (f (fv 1 15) 0) (lwC f) (r9) (f (fv 10 1) 0)) (f 11) (f (fv 10 1) 0) ((wv (wv (wv (wv (wv (mx [56, 57, 58, 65, 70, 71, fv 62 11] (wv f1 65 i (f1 66 ((i * 29) + k9))) f1_33) 63 0 2) 63 1 i) 63 2 (f1_33 65 i)) 63 3 jj9) 63 4 (f1_33 65 jj9)) 63) := by
              refine fw2 hn12 hNE hN1 (by omega) (s := f1 66 (i * 29 + k9)) ⟨hcv.1, hcv.2.1, hcv.2.2.1, hcv.2.2.2⟩ hs1 hz2 hN2 (fun u v h0 h1 h2 h3 h4 h5 h6 h7 hE => ?_) hz3 rfl rfl (((congrFun hs0 i).trans (up_n (by omega))).trans wv_s) rfl ((congrFun hs0 jj9).trans up_s)
              rw [up_sw (by omega)] at hE
              refine chP_first hci.2.2 (k := k9) (by omega) (fun x x0 x1 hE2 => ?_) u h0 h1 h2 h3 hE
              rw [up_sw (by omega)] at hE2
              exact hN3 x v x0 x1 h4 h5 h6 h7 hE2
            have hk := k0 ((wv (wv (wv (wv (wv (mx [56, 57, 58, 65, 70, 71, fv 62 11] (wv f1 65 i (f1 66 ((i * 29) + k9))) f1_33) 63 0 2) 63 1 i) 63 2 (f1_33 65 i)) 63 3 jj9) 63 4 (f1_33 65 jj9))) g1_34 (hKn) (fwE hDE hF9) hh9 hmo9
            rw [show mx [55, 56, 57, 58, 63, 65, 66, 67, 68, 69, 70, 71, fv 62 0, fv 62 11, fv 64 1] f (wv (wv (wv (wv (wv (mx [56, 57, 58, 65, 70, 71, fv 62 11] (wv f1 65 i (f1 66 ((i * 29) + k9))) f1_33) 63 0 2) 63 1 i) 63 2 (f1_33 65 i)) 63 3 jj9) 63 4 (f1_33 65 jj9)) = (wv (wv (wv (wv (wv (mx [56, 57, 58, 65, 70, 71, fv 62 11] (wv (mx [55, 56, 57, 58, 63, 65, 66, 67, 68, 69, 70, 71, fv 62 0, fv 62 11, fv 64 1] f f1) 65 i (f1 66 ((i * 29) + k9))) f1_33) 63 0 2) 63 1 i) 63 2 (f1_33 65 i)) 63 3 jj9) 63 4 (f1_33 65 jj9)) from ((mx_wv rfl (mx_wv rfl (mx_wv rfl (mx_wv rfl (mx_wv rfl (mx_mx rfl (mx_wv rfl rfl)))))))).symm] at hk
            exact hk
        · have hs0 := hh_43
          have hs1 := hh_44
          have hh9 := hh_45
          have hmo9 := hh_46
          refine ⟨fun _ => ?_, fun h => absurd (show (0 : Int) = 0 from by decide) h⟩
          refine ⟨show inr (k9 + 1) from by constructor <;> omega, ?_⟩
          refine hB (331 * (12 - i) - 30 * (jj9 - i - 1) - (k9 + 1) : Int).toNat ?_ (Or.inr (Or.inr (Or.inr (Or.inr (⟨rfl, i, was9, jj9, (k9 + 1), (mx [56, 57, 58, 65, 70, 71, fv 62 11] (wv f1 65 i (f1 66 ((i * 29) + k9))) f1_41), g1_42, rfl, rfl, (mx_mx rfl (mx_wv rfl rfl)), rfl, ?_, ?_, ?_, ?_, ?_, ?_, ?_, ?_, ?_, ?_, ?_, ?_, ?_, ?_, ?_, ?_, ?_, ?_⟩)))))
          · omega
          · exact hn12
          · exact hN
          · exact hAns
          · exact hKn
          · exact hAb
          · exact hLs
          · exact hM2
          · exact hCh
          · first | exact hh9 | exact hh
          · first | exact hmo9 | exact hmo1
          · have q := (congrFun hs0 i).trans wv_s
            exact ⟨fun k h0 h1 e => (congrFun hs0 k).trans ((wv_k e).trans (hRi.1 k h0 h1 e)), Eq.subst (motive := fun z => 0 ≤ z) q.symm hcv.1, Eq.subst (motive := fun z => z ≤ 29) q.symm (by omega), hRi.2.2.2⟩
          · omega
          · exact ⟨by omega, by show k9 + 1 ≤ f1 67 i; omega⟩
          · exact hNE
          · exact hN1
          · exact hN2
          · intro x t h0 h1 h2 h3 h4 h5 hE
            by_cases e : x = k9
            · rw [e] at hE
              have hj : wv (mx [55, 56, 57, 58, 63, 65, 66, 67, 68, 69, 70, 71, fv 62 0, fv 62 11, fv 64 1] f f1) 65 i (f1 66 (i * 29 + k9)) 65 jj9 = f 11 jj9 := (wv_k (by omega)).trans (hRi.1 jj9 (by omega) (by omega) (by omega))
              refine hs1 t h2 h3 (by rw [hj]; exact h4) (by rw [hj]; exact h5) ?_
              rw [hN]
              refine fd_cg (up_cg (fun k a0 a1 => ?_)) hE
              by_cases e2 : k = i
              · rw [e2, up_s, wv_s]; rfl
              · rw [up_n e2, wv_k e2]
                exact (hRi.1 k a0 a1 e2).symm
            · exact hN3 x t h0 (by omega) h2 h3 h4 h5 hE
          · omega
      · refine ⟨show inr (jj9 + 1) from by constructor <;> omega, ?_⟩
        refine hB (331 * (12 - i) - 30 * ((jj9 + 1) - i - 1) : Int).toNat ?_ (Or.inr (Or.inr (Or.inr (Or.inl ⟨rfl, i, was9, (jj9 + 1), f1, g1, rfl, rfl, rfl, rfl, ?_, ?_, ?_, ?_, ?_, ?_, ?_, ?_, ?_, ?_, ?_, ?_, ?_, ?_, ?_, ?_⟩))))
        · omega
        · exact hn12
        · exact hN
        · exact hAns
        · exact hKn
        · exact hAb
        · exact hLs
        · exact hM2
        · exact hCh
        · first | exact hh9 | exact hh
        · first | exact hmo9 | exact hmo1
        · exact hRi
        · omega
        · exact hNE
        · exact hN1
        · intro x y s t h0 h1 h2 h3 h4 h5 h6 h7 h8 h9 h10 h11 hE
          by_cases e : x = i ∧ y = jj9
          · rw [e.1, e.2, up_sw (by omega)] at hE
            rw [e.1] at h6 h7
            rw [e.2] at h10 h11
            obtain ⟨c, c0, c1, c2, c3⟩ := chP_E hci.2.2 ⟨h4, h5⟩ h6 h7 hE
            rw [up_sw (by omega)] at c3
            exact hN3 c t c0 (by omega) h8 h9 h10 h11 c3
          · exact hN2 x y s t h0 h1 h2 (by omega) h4 h5 h6 h7 h8 h9 h10 h11 hE
        · omega
  · have hpg1 := hpg.1
    refine ⟨show (1 : Int) = 0 ∨ 1 = 1 from by decide, ?_⟩
    refine hO (k_fill_63 (by omega) (fun f1_49 (hh_50 : ∀ k, 0 ≤ k → k < 5 → f1_49 63 k = (-1)) => ?_))
    have hF0 := hh_50
    refine ⟨fun (hh_51 : 12 < f (fv 10 1) 0) => ?_, fun (hh_51 : ¬ 12 < f (fv 10 1) 0) => ?_⟩
    · have hk := k0 ((mx [63] (wv f (fv 62 0) 0 1) f1_49)) g (rfl) (Or.inl ⟨by omega, fun w h0 h1 => hF0 w h0 (by omega)⟩) hhu hmo
      rw [show mx [55, 56, 57, 58, 63, 65, 66, 67, 68, 69, 70, 71, fv 62 0, fv 62 11, fv 64 1] f (mx [63] (wv f (fv 62 0) 0 1) f1_49) = (mx [63] (wv f (fv 62 0) 0 1) f1_49) from ((mx_mx rfl (mx_wv rfl mx_rf))).symm] at hk
      exact hk
    · refine hO (k_lookOver (by omega) (show (coB f) from hcb) (fun f1_52 (hh_53 : ∀ s, 0 ≤ s → s < 29 → f1_52 55 s = b1 ((aC f) s)) => ?_))
      have hAb0 := hh_53
      refine hO (k_rtake_rm (by omega) (show 0 ≤ (f (fv 10 1) 0) ∧ (f (fv 10 1) 0) ≤ 12 from by omega) (fun f1_54 (hh_55 : f1_54 (fv 64 1) 0 = (f (fv 10 1) 0)) (hh_56 : ∀ q, 0 ≤ q → q < (f (fv 10 1) 0) → f1_54 65 q = (f 11 q)) => ?_))
      have hN0 := hh_55
      have hRow0 := hh_56
      refine hO (k_needs (by omega) (show 0 ≤ (f1_54 (fv 64 1) 0) ∧ (f1_54 (fv 64 1) 0) ≤ 60 from by omega) (show (coB f) from hcb) (show ∀ o, 0 ≤ o → o < 8 → (f 4 o) = 0 ∨ (f 4 o) = 1 from hst) (show ∀ o, 0 ≤ o → o < 8 → 0 ≤ (f 3 o) ∧ (f 3 o) ≤ 99 from hbr) (show (lC f) from hl) (show 0 ≤ (f (fv 1 15) 0) ∧ (f (fv 1 15) 0) ≤ 9999 from hday) (fun mo_57 f1_58 (hh_59 : 0 ≤ mo_57 ∧ mo_57 ≤ 99) (hh_60 : ∀ fa, bnd fa (bdF (f (fv 1 15) 0) (f1_54 (fv 64 1) 0)) → payM fa (lwC f) ≤ mo_57) (hh_61 : ∀ o, 0 ≤ o → o < 8 → lsP (f 4) (f 8) (f 7) (f 3) (f (fv 1 0) 0) o (f1_58 68 o) ∧ 0 ≤ f1_58 68 o ∧ f1_58 68 o ≤ 99 ∧ f1_58 69 o = ndI (f1_58 68 o) mo_57) => ?_))
      have hq0 := hh_59
      have hq1 := hh_60
      have hq2 := hh_61
      refine hO (k_list (by omega) (show rowB (f1_54 (fv 64 1) 0) 12 (f1_54 65) from ⟨by omega, fun x h0 h1 => by rw [hRow0 x h0 (by omega)]; exact hpg.2 x h0 (by omega)⟩) (show (abOK (mx [55] f f1_52)) from fun s h0 h1 => hAb0 s h0 h1) (fun f1_62 (hh_63 : ∀ o, 0 ≤ o → o < (f1_54 (fv 64 1) 0) → 0 ≤ f1_62 67 o ∧ f1_62 67 o ≤ 29 ∧ chP (aC f) (f1_54 65 o) (f1_62 66) (o * 29) (f1_62 67 o) 29) => ?_))
      have hCh0 := hh_63
      refine hF (3984 : Int).toNat ?_ (Or.inl ⟨rfl, (mx [66, 67] (mx [57, 58, 68, 69] (mx [65, fv 64 1] (mx [55] (mx [63] (wv f (fv 62 0) 0 1) f1_49) f1_52) f1_54) f1_58) f1_62), g, rfl, rfl, (mx_mx rfl (mx_mx rfl (mx_mx rfl (mx_mx rfl (mx_mx rfl (mx_wv rfl mx_rf)))))), rfl, ?_, ?_, ?_, ?_, ?_, ?_, ?_, ?_, ?_, ?_, ?_, ?_⟩)
      · omega
      · omega
      · exact hN0
      · exact fun w h0 h1 => hF0 w h0 (by omega)
      · rfl
      · exact hAb0
      · intro o h0 h1
        have q := hq2 o h0 h1
        have q5 := ndI_r ⟨q.2.1, q.2.2.1⟩ hq0.1
        exact ⟨q.1, q.2.1, q.2.2.1, by rw [← q.2.2.2] at q5; exact q5⟩
      · rw [← hN0]; exact ⟨_, hq0, hq1, fun o h0 h1 => (hq2 o h0 h1).2.2.2⟩
      · intro o h0 h1
        have q := hCh0 o h0 (by rw [hN0]; exact h1)
        rw [hRow0 o h0 h1] at q
        exact q
      · exact hhu
      · exact hmo
      · exact hRow0
      · omega
end C36
