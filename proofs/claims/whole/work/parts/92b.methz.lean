/-! ===== a method that begins with a loop ===== -/
theorem i_methZ {d μ : Nat} {vs : List iv} {f : iF} {g : iG} {Q : Option iv → iF → iG → Prop} (cuts : List (Nat × Nat)) (I : Nat → Nat → iL → List iv → iF → iG → Prop) (N : Nat) (hN : N ≤ 4000) (hμ : Nat.ble 1000 μ = false) (hv : Nat.ble (i_ar vs).length (kE.2.2.1 μ) = true)
  (hI : ∀ n j lv st f g, n ≤ N → I n j lv st f g → ∀ (O : Nat → List iv → iF → iG → (Option iv → iF → iG → Prop) → Prop) (J : Bool → Nat → iL → List iv → iF → iG → Prop), (∀ {μ vs f g R}, wq d μ vs f g R → O μ vs f g R) → (∀ {j' lv st f g} m, m ≤ n → I m j' lv st f g → J false j' lv st f g) → (∀ {j' lv f g} m, m < n → I m j' lv [] f g → J true j' lv [] f g) → i_wp (kE.2.2.1 μ) x_nx cuts O J Q (kE.2.2.2 μ) (700 - j) j ((kE.2.2.2 μ).drop j) lv st f g)
  (h0 : okS vs → InR f → ∃ m : Nat, m ≤ N ∧ I m 0 (i_ar vs) [] f g) : wq (d + 1) μ vs f g Q := by
  intro hvs hf
  have main : ∀ (nn r j m : Nat) lv st f g tl k', 700 - j ≤ r → m ≤ nn → m ≤ N → I m j lv st f g → okL lv → okS st → InR f → lv.length + tl.length = kE.2.2.1 μ → x_okl 106 tl = true → 700 ≤ k' + j → zOK Q (x_ev kE x_nx (pe d) (x_lp kE x_nx (pe d) (kE.2.2.2 μ) 700 nn) (kE.2.2.2 μ) k' ((kE.2.2.2 μ).drop j) (cL lv ++ tl) (st.map cV) (cT f g)) := by
    intro nn
    induction nn with
    | zero =>
      intro r
      induction r with
      | zero =>
        intro j m lv st f g tl k' hr hm hmN hi
        have := hI m j lv st f g hmN hi (fun μ vs f g R => wq d μ vs f g R) (fun b j lv st f g => (b = false ∧ ∃ m' , m' ≤ m ∧ I m' j lv st f g) ∨ (b = true ∧ ∃ m', m' < m ∧ I m' j lv st f g)) (fun h => h) (fun m' h1 h2 => Or.inl ⟨rfl, m', h1, h2⟩) (fun m' h1 h2 => Or.inr ⟨rfl, m', h1, h2⟩)
        rw [show 700 - j = 0 by omega] at this
        exact this.elim
      | succ r ihr =>
        intro j m lv st f g tl k' hr hm hmN hi hl hs hf ht htl hk
        have := hI m j lv st f g hmN hi (fun μ vs f g R => wq d μ vs f g R) (fun b j lv st f g => (b = false ∧ ∃ m' , m' ≤ m ∧ I m' j lv st f g) ∨ (b = true ∧ ∃ m', m' < m ∧ I m' j lv st f g)) (fun h => h) (fun m' h1 h2 => Or.inl ⟨rfl, m', h1, h2⟩) (fun m' h1 h2 => Or.inr ⟨rfl, m', h1, h2⟩)
        refine i_ev_ok (p0 := j) (O := fun μ vs f g R => wq d μ vs f g R) (fun μ vs f g R h => h) (fun j' lv st f g tl k' hj hJ hl hs hf ht htl hk => ?_) (fun j' lv f g tl hJ hl hf ht htl => ?_) (700 - j) j _ lv st f g tl k' this rfl (Nat.le_refl _) hl hs hf ht htl (by omega) hk
        · rcases hJ with ⟨-, m', h1, h2⟩ | ⟨h1, -⟩
          · exact ihr j' m' lv st f g tl k' (by omega) (by omega) (by omega) h2 hl hs hf ht htl hk
          · cases h1
        · rcases hJ with ⟨h1, -⟩ | ⟨-, m', h1, h2⟩
          · cases h1
          · omega
    | succ nn ihn =>
      intro r
      induction r with
      | zero =>
        intro j m lv st f g tl k' hr hm hmN hi
        have := hI m j lv st f g hmN hi (fun μ vs f g R => wq d μ vs f g R) (fun b j lv st f g => (b = false ∧ ∃ m' , m' ≤ m ∧ I m' j lv st f g) ∨ (b = true ∧ ∃ m', m' < m ∧ I m' j lv st f g)) (fun h => h) (fun m' h1 h2 => Or.inl ⟨rfl, m', h1, h2⟩) (fun m' h1 h2 => Or.inr ⟨rfl, m', h1, h2⟩)
        rw [show 700 - j = 0 by omega] at this
        exact this.elim
      | succ r ihr =>
        intro j m lv st f g tl k' hr hm hmN hi hl hs hf ht htl hk
        have := hI m j lv st f g hmN hi (fun μ vs f g R => wq d μ vs f g R) (fun b j lv st f g => (b = false ∧ ∃ m' , m' ≤ m ∧ I m' j lv st f g) ∨ (b = true ∧ ∃ m', m' < m ∧ I m' j lv st f g)) (fun h => h) (fun m' h1 h2 => Or.inl ⟨rfl, m', h1, h2⟩) (fun m' h1 h2 => Or.inr ⟨rfl, m', h1, h2⟩)
        refine i_ev_ok (p0 := j) (O := fun μ vs f g R => wq d μ vs f g R) (fun μ vs f g R h => h) (fun j' lv st f g tl k' hj hJ hl hs hf ht htl hk => ?_) (fun j' lv f g tl hJ hl hf ht htl => ?_) (700 - j) j _ lv st f g tl k' this rfl (Nat.le_refl _) hl hs hf ht htl (by omega) hk
        · rcases hJ with ⟨-, m', h1, h2⟩ | ⟨h1, -⟩
          · exact ihr j' m' lv st f g tl k' (by omega) (by omega) (by omega) h2 hl hs hf ht htl hk
          · cases h1
        · rcases hJ with ⟨h1, -⟩ | ⟨-, m', h1, h2⟩
          · cases h1
          · show zOK Q (x_ev _ _ _ _ _ _ _ _ [] _)
            exact ihn 700 j' m' lv [] f g tl 700 (by omega) (by omega) (by omega) h2 hl (fun v hv => by simp at hv) hf ht htl (by omega)
  have hv := Nat.le_of_ble_eq_true hv
  have hlen : (x_ar (vs.map cV)).length = (i_ar vs).length := by rw [← i_ar_x, cL_len]
  obtain ⟨m, hm1, hm2⟩ := h0 hvs hf
  have h2 : zOK Q (ze d μ 4000 700 (kE.2.2.2 μ) (x_ar (vs.map cV) ++ List.replicate (kE.2.2.1 μ - (x_ar (vs.map cV)).length) none) [] (cT f g)) := by
    rw [hlen, ← i_ar_x]
    exact main 4000 700 0 m (i_ar vs) [] f g _ 700 (by omega) (by omega) hm1 hm2 (i_ar_ok hvs) (fun v hv => by simp at hv) hf (by rw [List.length_replicate]; omega) (List.all_eq_true.mpr (fun o ho => by rw [(List.mem_replicate.mp ho).2])) (by omega)
  obtain ⟨v, f', g', e, h3, h4, h5⟩ := h2
  exact ⟨v, f', g', e_in hμ (by rw [hlen]; exact hv) e, h3, h4, h5⟩
