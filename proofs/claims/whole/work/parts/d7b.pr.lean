section D7b
variable {f : iF} {g : iG}
theorem v_pr (hH : HR f f) : ptR (prI (aC f) (f 7) (f (fv 1 15) 0) (lwC f) (f 11) (f (fv 10 1) 0) (f (fv 1 16) 0) (nwC f, f 19, -1, 0) (f (fv 10 1) 0)) (prI (aR f) (oR f) (f (fv 79 12) 0) (lwR f) (f 88) (f (fv 79 13) 0) (f (fv 79 11) 0) (f 80, f 103, -1, 0) (f (fv 79 13) 0)) ∧ ptB (f (fv 1 13) 0) (prI (aC f) (f 7) (f (fv 1 15) 0) (lwC f) (f 11) (f (fv 10 1) 0) (f (fv 1 16) 0) (nwC f, f 19, -1, 0) (f (fv 10 1) 0)) := by
  obtain ⟨hcr, hpu, hbr, hst, hhu, hto, how, hbu, hpr, hnw, hdy, hje, hpg, hwd, hro, hlw⟩ := id hH
  have hcr2 := hcr.2
  have hr2 := hnw.2.2.2
  have hab : ∀ s, aC f s = true → 0 ≤ s ∧ s < 29 := v_in
  have hoo : ∀ s, aC f s = true → 0 ≤ f 7 s ∧ f 7 s < 8 := fun s q => by
    have q1 := aC_t.mp q
    have := how s q1.1 q1.2.1
    omega
  have hn0 : ∀ k, 0 ≤ k → k < 40 → nwC f k = f 80 k := fun k k0 k1 => by
    unfold nwC
    by_cases c1 : k < 8
    · rw [if_pos c1]; exact (hpu k k0 c1).1
    · rw [if_neg c1]
      by_cases c2 : k < 37
      · rw [if_pos c2, hpr (k - 8) (by omega) (by omega), show 8 + (k - 8) = k by omega]
      · rw [if_neg c2]
        by_cases c3 : k = 37
        · rw [if_pos c3, c3]; exact hnw.1
        · rw [if_neg c3]
          by_cases c4 : k = 38
          · rw [if_pos c4, c4]; exact hnw.2.1
          · rw [if_neg c4, show k = 39 by omega]; exact hnw.2.2.1
  have hX : ptR (prI (aC f) (f 7) (f (fv 1 15) 0) (lwC f) (f 11) (f (fv 10 1) 0) (f (fv 1 16) 0) (nwC f, f 19, -1, 0) (f (fv 10 1) 0)) (prI (aR f) (oR f) (f (fv 79 12) 0) (lwR f) (f 88) (f (fv 79 13) 0) (f (fv 79 11) 0) (f 80, f 103, -1, 0) (f (fv 79 13) 0)) := by
    have q := prI_cg (ow' := oR f) (pg' := f 88) (day := f (fv 1 15) 0) (w := lwC f) (jl := f (fv 1 16) 0) (p := (nwC f, f 19, -1, 0)) (q := (f 80, f 103, -1, 0)) hab hoo (v_ow hH) (fun k k0 k1 => (hpg.2.2 k k0 k1).1) ⟨hn0, fun k k0 k1 => hro k k0 k1, rfl, hr2.1, hr2.2⟩ (f (fv 10 1) 0).toNat (by have := hpg.2.1; omega)
    show ptR (prI (aC f) (f 7) (f (fv 1 15) 0) (lwC f) (f 11) (f (fv 10 1) 0) (f (fv 1 16) 0) (nwC f, f 19, -1, 0) (f (fv 10 1) 0)) (prN (aR f) (oR f) (f (fv 79 12) 0) (lwR f) (f 88) (f (fv 79 13) 0) (f (fv 79 11) 0) (f 80, f 103, -1, 0) (f (fv 79 13) 0).toNat)
    rw [← v_ab hH, ← hdy.1, ← hlw.2.2.1, ← hpg.1, ← hje.1]
    exact q
  have hY : ptB (f (fv 1 13) 0) (prI (aC f) (f 7) (f (fv 1 15) 0) (lwC f) (f 11) (f (fv 10 1) 0) (f (fv 1 16) 0) (nwC f, f 19, -1, 0) (f (fv 10 1) 0)) := prI_r hab hoo ⟨fun k k0 k1 => by rw [show (nwC f, f 19, ((-1 : Int), (0 : Int))).1 k = f 2 k from nwC_a k1]; exact (hpu k k0 k1).2, Int.le_refl _, hr2.2⟩ _
  exact ⟨hX, hY⟩
end D7b
