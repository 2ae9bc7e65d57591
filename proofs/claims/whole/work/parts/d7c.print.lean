section D7c
variable {f : iF} {g : iG}
set_option maxRecDepth 100000 in
set_option maxHeartbeats 4000000 in
theorem st_print (h : Inv f g) : StP 197 54 [] f g := by
  obtain ⟨hH, hT, hF, hS, hI, hFe, hBy, hSw, hM, hW, h44⟩ := h
  obtain ⟨hcr, hpu, hbr, hst, hhu, hto, how, hbu, hpr, hnw, hdy, hje, hpg, hwd, hro, hlw⟩ := id hH
  have es : f (fv 79 3) 0 = f (fv 48 5) 0 := hS.1.symm
  have hcr2 := hcr.2
  have hr2 := hnw.2.2.2
  obtain ⟨hX, hY⟩ := v_pr hH
  refine k_print (by decide) hS.2.1 (v_row hH) hje.2 (fun a a0 a1 => (hpu a a0 a1).2) hr2 (v_co hH) hlw.1 hlw.2.2.2.1 hdy.2 hM (fun f1 g1 h1 h2 h3 h4 h5 h6 hm => ⟨_, rfl, ?_⟩)
  refine c_print (by decide) (show pgB f from v_pgB hH) (show oB f from v_o hH) (show lB f from hlw.2.1) (by show 0 ≤ f (fv 79 12) 0 ∧ f (fv 79 12) 0 ≤ 9999; rw [← hdy.1]; exact hdy.2) (by show 0 ≤ f (fv 79 11) 0 ∧ f (fv 79 11) 0 ≤ 1000; rw [← hje.1]; exact hje.2) (by show 0 ≤ f (fv 79 3) 0 ∧ f (fv 79 3) 0 ≤ 6; rw [es]; exact hS.2.1) (by show (∀ a, 0 ≤ a → a < 8 → 0 ≤ f 80 a ∧ f 80 a ≤ 99999) ∧ 0 ≤ f 80 37 ∧ f 80 37 ≤ 200; rw [← hnw.1]; exact ⟨fun a a0 a1 => by rw [← (hpu a a0 a1).1]; exact (hpu a a0 a1).2, hr2⟩) (fun f2 k1 k2 k3 => ⟨?_, ?_⟩)
  · show some (iI ((prI (aR f) (oR f) (f (fv 79 12) 0) (lwR f) (f 88) (f (fv 79 13) 0) (f (fv 79 11) 0) (f 80, f 103, -1, 0) (f (fv 79 13) 0))).2.2.2) = some (iI ((prI (aC f) (f 7) (f (fv 1 15) 0) (lwC f) (f 11) (f (fv 10 1) 0) (f (fv 1 16) 0) (nwC f, f 19, -1, 0) (f (fv 10 1) 0))).2.2.2)
    rw [hX.2.2.1]
  · have k1 : (f (fv 79 3) 0 = 6 ∧ f2 (fv 79 3) 0 = 6 ∧ (∀ j, 0 ≤ j → j < 200 → f2 81 j = f 81 (j + 40)) ∧ ∀ j, 0 ≤ j → j < 40 → f2 81 (200 + j) = f 80 j) ∨ (¬ f (fv 79 3) 0 = 6 ∧ f2 (fv 79 3) 0 = f (fv 79 3) 0 + 1 ∧ (∀ j, 0 ≤ j → j < 40 * f (fv 79 3) 0 → f2 81 j = f 81 j) ∧ ∀ j, 0 ≤ j → j < 40 → f2 81 (40 * f (fv 79 3) 0 + j) = f 80 j) := k1
    have k2 : f2 80 = ((prI (aR f) (oR f) (f (fv 79 12) 0) (lwR f) (f 88) (f (fv 79 13) 0) (f (fv 79 11) 0) (f 80, f 103, -1, 0) (f (fv 79 13) 0))).1 := k2
    have k3 : f2 103 = ((prI (aR f) (oR f) (f (fv 79 12) 0) (lwR f) (f 88) (f (fv 79 13) 0) (f (fv 79 11) 0) (f 80, f 103, -1, 0) (f (fv 79 13) 0))).2.1 := k3
    rw [es] at k1
    have hn := hS.2.1
    have q1 : iPu (f1 2) (f2 80) := fun a a0 a1 => by
      rw [h2 a a0 a1, k2]
      exact ⟨hX.1 a a0 (by omega), hY.1 a a0 a1⟩
    have q2 : iPr (f1 9) (f2 80) := fun s s0 s1 => by
      rw [h3 s s0 s1, k2]
      exact hX.1 (8 + s) (by omega) (by omega)
    have q3 : iNw (f1 (fv 1 13) 0) (f1 (fv 1 14) 0) (f1 (fv 1 17) 0) (f2 80) := by
      rw [h4.1, h4.2.1, h4.2.2, k2]
      exact ⟨hX.1 37 (by decide) (by decide), hX.1 38 (by decide) (by decide), hX.1 39 (by decide) (by decide), hX.2.2.2.1, hX.2.2.2.2⟩
    have q4 : iRo (f1 (fv 1 13) 0) (f1 19) (f2 103) := by
      rw [h4.1, h5, k3]
      exact hX.2.1
    have hY2 : f (fv 1 13) 0 ≤ f1 (fv 1 13) 0 := by rw [h4.1]; exact hY.2.1
    have q5 : iSh (f1 (fv 48 5) 0) (f2 (fv 79 3) 0) (f1 (fv 1 13) 0) (f1 49) (f1 50) (f1 51) (f1 52) (f1 53) (f2 81) := sh_keep hS.2.1 hS.2.2 hpu hpr hnw hY2 h1 k1
    exact ⟨⟨hcr, q1, hbr, hst, hhu, hto, how, hbu, q2, q3, hdy, hje, (by show iPg (f (fv 10 1) 0) (f (fv 79 13) 0) (f1 11) (f 88); rw [h6]; exact hpg), hwd, q4, hlw⟩, hT, hF, q5, hI, (by have q := hFe; show (¬ f (fv 62 0) 0 = 0 → FewP (EaC f) (f1 11) (f (fv 10 1) 0) (f 63)) ∧ _; rw [h6]; exact q), hBy, (by show ¬ f (fv 76 0) 0 = 0 → SwpP (gnQ (f 8) (f 4) (f 7) (f (fv 1 15) 0) (lwC f) (f1 11) (f (fv 10 1) 0)) (fun w => f 77 w); rw [h6]; exact hSw), hm, hW, h44⟩
end D7c
