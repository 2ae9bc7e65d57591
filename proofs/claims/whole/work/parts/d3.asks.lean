section D3
variable {f : iF} {g : iG}
/-! ===== the steps that only ask ===== -/
set_option maxRecDepth 100000 in
set_option maxHeartbeats 4000000 in
theorem st_of {a w : Int} (h : Inv f g) : StP 199 58 [iI a, iI w] f g := by
  obtain ⟨hH, hT, hF, hS, hI, hFe, hBy, hSw, hM, hW, h44⟩ := h
  obtain ⟨hcr, hpu, hbr, hst, hhu, hto, how, hbu, hpr, hnw, hdy, hje, hpg, hwd, hro, hlw⟩ := id hH
  have ec : f (fv 79 4) 0 = f (fv 1 0) 0 := hcr.1.symm
  have hto9 : ∀ a, 0 ≤ a → a < 8 → 0 ≤ f 85 a ∧ f 85 a ≤ 100000 := fun a a0 a1 => (hto a a0 a1).2.1
  have hcr2 := hcr.2
  refine k_of (by decide) hcr.2 (v_row hH) (v_co hH) hlw.1 hlw.2.2.2.1 hdy.2 hM (fun hc => ⟨_, rfl, ?_⟩) (fun hc => ⟨_, rfl, ?_⟩) (fun hc => ⟨_, rfl, ?_⟩) (fun hc => ⟨_, rfl, ?_⟩) (fun hc => ⟨_, rfl, ?_⟩) (fun hc => ⟨_, rfl, ?_⟩) (fun f1 g1 hc hm => ⟨_, rfl, ?_⟩) (fun hc => ⟨_, rfl, ?_⟩)
  · exact c_of (by decide) (by show 0 ≤ f (fv 79 4) 0 ∧ f (fv 79 4) 0 ≤ 8; rw [← hcr.1]; exact hcr.2) hto9 (show pgB f from v_pgB hH) (show oB f from v_o hH) (show lB f from hlw.2.1) (by show 0 ≤ f (fv 79 12) 0 ∧ f (fv 79 12) 0 ≤ 9999; rw [← hdy.1]; exact hdy.2) (fun hk => ⟨by show some (iI (f 80 (0 + a))) = _; rw [Int.zero_add, (hpu a hc.1.1 (by omega)).1], ⟨⟨hcr, hpu, hbr, hst, hhu, hto, how, hbu, hpr, hnw, hdy, hje, hpg, hwd, hro, hlw⟩, hT, hF, hS, hI, hFe, hBy, hSw, hM, hW, h44⟩⟩) (fun hk => absurd hk (by show ¬ ((0 ≤ a ∧ a < f (fv 79 4) 0) ∧ w = 1); rw [ec]; omega)) (fun hk => absurd hk (by show ¬ ((0 ≤ a ∧ a < f (fv 79 4) 0) ∧ w = 2); rw [ec]; omega)) (fun hk => absurd hk (by show ¬ ((0 ≤ a ∧ a < f (fv 79 4) 0) ∧ w = 3); rw [ec]; omega)) (fun hk => absurd hk (by show ¬ ((0 ≤ a ∧ a < f (fv 79 4) 0) ∧ w = 4); rw [ec]; omega)) (fun hk => absurd hk (by show ¬ ((0 ≤ a ∧ a < f (fv 79 4) 0) ∧ w = 5); rw [ec]; omega)) (fun f2 hk => absurd hk (by show ¬ ((0 ≤ a ∧ a < f (fv 79 4) 0) ∧ w = 6); rw [ec]; omega)) (fun hk => absurd hk (by show ¬ (¬ ((0 ≤ a ∧ a < f (fv 79 4) 0) ∧ 0 ≤ w ∧ w ≤ 6)); rw [ec]; omega))
  · exact c_of (by decide) (by show 0 ≤ f (fv 79 4) 0 ∧ f (fv 79 4) 0 ≤ 8; rw [← hcr.1]; exact hcr.2) hto9 (show pgB f from v_pgB hH) (show oB f from v_o hH) (show lB f from hlw.2.1) (by show 0 ≤ f (fv 79 12) 0 ∧ f (fv 79 12) 0 ≤ 9999; rw [← hdy.1]; exact hdy.2) (fun hk => absurd hk (by show ¬ ((0 ≤ a ∧ a < f (fv 79 4) 0) ∧ w = 0); rw [ec]; omega)) (fun hk => ⟨by show some (iI (f 82 a)) = _; rw [(hbr a hc.1.1 (by omega)).1], ⟨⟨hcr, hpu, hbr, hst, hhu, hto, how, hbu, hpr, hnw, hdy, hje, hpg, hwd, hro, hlw⟩, hT, hF, hS, hI, hFe, hBy, hSw, hM, hW, h44⟩⟩) (fun hk => absurd hk (by show ¬ ((0 ≤ a ∧ a < f (fv 79 4) 0) ∧ w = 2); rw [ec]; omega)) (fun hk => absurd hk (by show ¬ ((0 ≤ a ∧ a < f (fv 79 4) 0) ∧ w = 3); rw [ec]; omega)) (fun hk => absurd hk (by show ¬ ((0 ≤ a ∧ a < f (fv 79 4) 0) ∧ w = 4); rw [ec]; omega)) (fun hk => absurd hk (by show ¬ ((0 ≤ a ∧ a < f (fv 79 4) 0) ∧ w = 5); rw [ec]; omega)) (fun f2 hk => absurd hk (by show ¬ ((0 ≤ a ∧ a < f (fv 79 4) 0) ∧ w = 6); rw [ec]; omega)) (fun hk => absurd hk (by show ¬ (¬ ((0 ≤ a ∧ a < f (fv 79 4) 0) ∧ 0 ≤ w ∧ w ≤ 6)); rw [ec]; omega))
  · exact c_of (by decide) (by show 0 ≤ f (fv 79 4) 0 ∧ f (fv 79 4) 0 ≤ 8; rw [← hcr.1]; exact hcr.2) hto9 (show pgB f from v_pgB hH) (show oB f from v_o hH) (show lB f from hlw.2.1) (by show 0 ≤ f (fv 79 12) 0 ∧ f (fv 79 12) 0 ≤ 9999; rw [← hdy.1]; exact hdy.2) (fun hk => absurd hk (by show ¬ ((0 ≤ a ∧ a < f (fv 79 4) 0) ∧ w = 0); rw [ec]; omega)) (fun hk => absurd hk (by show ¬ ((0 ≤ a ∧ a < f (fv 79 4) 0) ∧ w = 1); rw [ec]; omega)) (fun hk => ⟨by show some (iI (f 83 a)) = _; rw [(hst a hc.1.1 (by omega)).1], ⟨⟨hcr, hpu, hbr, hst, hhu, hto, how, hbu, hpr, hnw, hdy, hje, hpg, hwd, hro, hlw⟩, hT, hF, hS, hI, hFe, hBy, hSw, hM, hW, h44⟩⟩) (fun hk => absurd hk (by show ¬ ((0 ≤ a ∧ a < f (fv 79 4) 0) ∧ w = 3); rw [ec]; omega)) (fun hk => absurd hk (by show ¬ ((0 ≤ a ∧ a < f (fv 79 4) 0) ∧ w = 4); rw [ec]; omega)) (fun hk => absurd hk (by show ¬ ((0 ≤ a ∧ a < f (fv 79 4) 0) ∧ w = 5); rw [ec]; omega)) (fun f2 hk => absurd hk (by show ¬ ((0 ≤ a ∧ a < f (fv 79 4) 0) ∧ w = 6); rw [ec]; omega)) (fun hk => absurd hk (by show ¬ (¬ ((0 ≤ a ∧ a < f (fv 79 4) 0) ∧ 0 ≤ w ∧ w ≤ 6)); rw [ec]; omega))
  · exact c_of (by decide) (by show 0 ≤ f (fv 79 4) 0 ∧ f (fv 79 4) 0 ≤ 8; rw [← hcr.1]; exact hcr.2) hto9 (show pgB f from v_pgB hH) (show oB f from v_o hH) (show lB f from hlw.2.1) (by show 0 ≤ f (fv 79 12) 0 ∧ f (fv 79 12) 0 ≤ 9999; rw [← hdy.1]; exact hdy.2) (fun hk => absurd hk (by show ¬ ((0 ≤ a ∧ a < f (fv 79 4) 0) ∧ w = 0); rw [ec]; omega)) (fun hk => absurd hk (by show ¬ ((0 ≤ a ∧ a < f (fv 79 4) 0) ∧ w = 1); rw [ec]; omega)) (fun hk => absurd hk (by show ¬ ((0 ≤ a ∧ a < f (fv 79 4) 0) ∧ w = 2); rw [ec]; omega)) (fun hk => ⟨by show some (iI (f 84 a)) = _; rw [(hhu a hc.1.1 (by omega)).1], ⟨⟨hcr, hpu, hbr, hst, hhu, hto, how, hbu, hpr, hnw, hdy, hje, hpg, hwd, hro, hlw⟩, hT, hF, hS, hI, hFe, hBy, hSw, hM, hW, h44⟩⟩) (fun hk => absurd hk (by show ¬ ((0 ≤ a ∧ a < f (fv 79 4) 0) ∧ w = 4); rw [ec]; omega)) (fun hk => absurd hk (by show ¬ ((0 ≤ a ∧ a < f (fv 79 4) 0) ∧ w = 5); rw [ec]; omega)) (fun f2 hk => absurd hk (by show ¬ ((0 ≤ a ∧ a < f (fv 79 4) 0) ∧ w = 6); rw [ec]; omega)) (fun hk => absurd hk (by show ¬ (¬ ((0 ≤ a ∧ a < f (fv 79 4) 0) ∧ 0 ≤ w ∧ w ≤ 6)); rw [ec]; omega))
  · exact c_of (by decide) (by show 0 ≤ f (fv 79 4) 0 ∧ f (fv 79 4) 0 ≤ 8; rw [← hcr.1]; exact hcr.2) hto9 (show pgB f from v_pgB hH) (show oB f from v_o hH) (show lB f from hlw.2.1) (by show 0 ≤ f (fv 79 12) 0 ∧ f (fv 79 12) 0 ≤ 9999; rw [← hdy.1]; exact hdy.2) (fun hk => absurd hk (by show ¬ ((0 ≤ a ∧ a < f (fv 79 4) 0) ∧ w = 0); rw [ec]; omega)) (fun hk => absurd hk (by show ¬ ((0 ≤ a ∧ a < f (fv 79 4) 0) ∧ w = 1); rw [ec]; omega)) (fun hk => absurd hk (by show ¬ ((0 ≤ a ∧ a < f (fv 79 4) 0) ∧ w = 2); rw [ec]; omega)) (fun hk => absurd hk (by show ¬ ((0 ≤ a ∧ a < f (fv 79 4) 0) ∧ w = 3); rw [ec]; omega)) (fun hk => ⟨by show some (iI (cI (fun s => decide (f 86 s - 1 = a)) 29)) = _; rw [cI_congr (p := fun s => decide (f 7 s = a)) (q := fun s => decide (f 86 s - 1 = a)) (fun s s0 s1 => by show decide (f 7 s = a) = decide (f 86 s - 1 = a); rw [(how s s0 s1).1])], ⟨⟨hcr, hpu, hbr, hst, hhu, hto, how, hbu, hpr, hnw, hdy, hje, hpg, hwd, hro, hlw⟩, hT, hF, hS, hI, hFe, hBy, hSw, hM, hW, h44⟩⟩) (fun hk => absurd hk (by show ¬ ((0 ≤ a ∧ a < f (fv 79 4) 0) ∧ w = 5); rw [ec]; omega)) (fun f2 hk => absurd hk (by show ¬ ((0 ≤ a ∧ a < f (fv 79 4) 0) ∧ w = 6); rw [ec]; omega)) (fun hk => absurd hk (by show ¬ (¬ ((0 ≤ a ∧ a < f (fv 79 4) 0) ∧ 0 ≤ w ∧ w ≤ 6)); rw [ec]; omega))
  · exact c_of (by decide) (by show 0 ≤ f (fv 79 4) 0 ∧ f (fv 79 4) 0 ≤ 8; rw [← hcr.1]; exact hcr.2) hto9 (show pgB f from v_pgB hH) (show oB f from v_o hH) (show lB f from hlw.2.1) (by show 0 ≤ f (fv 79 12) 0 ∧ f (fv 79 12) 0 ≤ 9999; rw [← hdy.1]; exact hdy.2) (fun hk => absurd hk (by show ¬ ((0 ≤ a ∧ a < f (fv 79 4) 0) ∧ w = 0); rw [ec]; omega)) (fun hk => absurd hk (by show ¬ ((0 ≤ a ∧ a < f (fv 79 4) 0) ∧ w = 1); rw [ec]; omega)) (fun hk => absurd hk (by show ¬ ((0 ≤ a ∧ a < f (fv 79 4) 0) ∧ w = 2); rw [ec]; omega)) (fun hk => absurd hk (by show ¬ ((0 ≤ a ∧ a < f (fv 79 4) 0) ∧ w = 3); rw [ec]; omega)) (fun hk => absurd hk (by show ¬ ((0 ≤ a ∧ a < f (fv 79 4) 0) ∧ w = 4); rw [ec]; omega)) (fun hk => ⟨by show some (iI (f 85 a - 1)) = _; rw [(hto a hc.1.1 (by omega)).1 hc.1.2], ⟨⟨hcr, hpu, hbr, hst, hhu, hto, how, hbu, hpr, hnw, hdy, hje, hpg, hwd, hro, hlw⟩, hT, hF, hS, hI, hFe, hBy, hSw, hM, hW, h44⟩⟩) (fun f2 hk => absurd hk (by show ¬ ((0 ≤ a ∧ a < f (fv 79 4) 0) ∧ w = 6); rw [ec]; omega)) (fun hk => absurd hk (by show ¬ (¬ ((0 ≤ a ∧ a < f (fv 79 4) 0) ∧ 0 ≤ w ∧ w ≤ 6)); rw [ec]; omega))
  · exact c_of (by decide) (by show 0 ≤ f (fv 79 4) 0 ∧ f (fv 79 4) 0 ≤ 8; rw [← hcr.1]; exact hcr.2) hto9 (show pgB f from v_pgB hH) (show oB f from v_o hH) (show lB f from hlw.2.1) (by show 0 ≤ f (fv 79 12) 0 ∧ f (fv 79 12) 0 ≤ 9999; rw [← hdy.1]; exact hdy.2) (fun hk => absurd hk (by show ¬ ((0 ≤ a ∧ a < f (fv 79 4) 0) ∧ w = 0); rw [ec]; omega)) (fun hk => absurd hk (by show ¬ ((0 ≤ a ∧ a < f (fv 79 4) 0) ∧ w = 1); rw [ec]; omega)) (fun hk => absurd hk (by show ¬ ((0 ≤ a ∧ a < f (fv 79 4) 0) ∧ w = 2); rw [ec]; omega)) (fun hk => absurd hk (by show ¬ ((0 ≤ a ∧ a < f (fv 79 4) 0) ∧ w = 3); rw [ec]; omega)) (fun hk => absurd hk (by show ¬ ((0 ≤ a ∧ a < f (fv 79 4) 0) ∧ w = 4); rw [ec]; omega)) (fun hk => absurd hk (by show ¬ ((0 ≤ a ∧ a < f (fv 79 4) 0) ∧ w = 5); rw [ec]; omega)) (fun f2 hk => ⟨by show some (iI (enI (aR f) (oR f) (f (fv 79 12) 0) (lwR f) (f 88) (f (fv 79 13) 0) a)) = _; rw [v_en hH], ⟨⟨hcr, hpu, hbr, hst, hhu, hto, how, hbu, hpr, hnw, hdy, hje, hpg, hwd, hro, hlw⟩, hT, hF, hS, hI, hFe, hBy, hSw, hm, hW, h44⟩⟩) (fun hk => absurd hk (by show ¬ (¬ ((0 ≤ a ∧ a < f (fv 79 4) 0) ∧ 0 ≤ w ∧ w ≤ 6)); rw [ec]; omega))
  · exact c_of (by decide) (by show 0 ≤ f (fv 79 4) 0 ∧ f (fv 79 4) 0 ≤ 8; rw [← hcr.1]; exact hcr.2) hto9 (show pgB f from v_pgB hH) (show oB f from v_o hH) (show lB f from hlw.2.1) (by show 0 ≤ f (fv 79 12) 0 ∧ f (fv 79 12) 0 ≤ 9999; rw [← hdy.1]; exact hdy.2) (fun hk => absurd hk (by show ¬ ((0 ≤ a ∧ a < f (fv 79 4) 0) ∧ w = 0); rw [ec]; omega)) (fun hk => absurd hk (by show ¬ ((0 ≤ a ∧ a < f (fv 79 4) 0) ∧ w = 1); rw [ec]; omega)) (fun hk => absurd hk (by show ¬ ((0 ≤ a ∧ a < f (fv 79 4) 0) ∧ w = 2); rw [ec]; omega)) (fun hk => absurd hk (by show ¬ ((0 ≤ a ∧ a < f (fv 79 4) 0) ∧ w = 3); rw [ec]; omega)) (fun hk => absurd hk (by show ¬ ((0 ≤ a ∧ a < f (fv 79 4) 0) ∧ w = 4); rw [ec]; omega)) (fun hk => absurd hk (by show ¬ ((0 ≤ a ∧ a < f (fv 79 4) 0) ∧ w = 5); rw [ec]; omega)) (fun f2 hk => absurd hk (by show ¬ ((0 ≤ a ∧ a < f (fv 79 4) 0) ∧ w = 6); rw [ec]; omega)) (fun hk => ⟨rfl, ⟨⟨hcr, hpu, hbr, hst, hhu, hto, how, hbu, hpr, hnw, hdy, hje, hpg, hwd, hro, hlw⟩, hT, hF, hS, hI, hFe, hBy, hSw, hM, hW, h44⟩⟩)

set_option maxRecDepth 100000 in
set_option maxHeartbeats 4000000 in
theorem st_sign {s w : Int} (h : Inv f g) : StP 200 59 [iI s, iI w] f g := by
  obtain ⟨hH, hT, hF, hS, hI, hFe, hBy, hSw, hM, hW, h44⟩ := h
  obtain ⟨hcr, hpu, hbr, hst, hhu, hto, how, hbu, hpr, hnw, hdy, hje, hpg, hwd, hro, hlw⟩ := id hH
  refine k_sign (by decide) (fun hc => ⟨_, rfl, ?_⟩) (fun hc => ⟨_, rfl, ?_⟩) (fun hc => ⟨_, rfl, ?_⟩) (fun hc => ⟨_, rfl, ?_⟩)
  · exact c_sign (by decide) (v_o hH) (fun hk => ⟨by show some (iI (f 86 s - 1)) = _; rw [(how s hc.1 hc.2.1).1], ⟨⟨hcr, hpu, hbr, hst, hhu, hto, how, hbu, hpr, hnw, hdy, hje, hpg, hwd, hro, hlw⟩, hT, hF, hS, hI, hFe, hBy, hSw, hM, hW, h44⟩⟩) (fun hk => absurd hk (by omega)) (fun hk => absurd hk (by omega)) (fun hk => absurd hk (by omega))
  · exact c_sign (by decide) (v_o hH) (fun hk => absurd hk (by omega)) (fun hk => ⟨by show some (iI (f 87 s)) = _; rw [(hbu s hc.1 hc.2.1).1], ⟨⟨hcr, hpu, hbr, hst, hhu, hto, how, hbu, hpr, hnw, hdy, hje, hpg, hwd, hro, hlw⟩, hT, hF, hS, hI, hFe, hBy, hSw, hM, hW, h44⟩⟩) (fun hk => absurd hk (by omega)) (fun hk => absurd hk (by omega))
  · exact c_sign (by decide) (v_o hH) (fun hk => absurd hk (by omega)) (fun hk => absurd hk (by omega)) (fun hk => ⟨by show some (iI (f 80 (8 + s))) = _; rw [hpr s hc.1 hc.2.1], ⟨⟨hcr, hpu, hbr, hst, hhu, hto, how, hbu, hpr, hnw, hdy, hje, hpg, hwd, hro, hlw⟩, hT, hF, hS, hI, hFe, hBy, hSw, hM, hW, h44⟩⟩) (fun hk => absurd hk (by omega))
  · exact c_sign (by decide) (v_o hH) (fun hk => absurd hk (by omega)) (fun hk => absurd hk (by omega)) (fun hk => absurd hk (by omega)) (fun hk => ⟨rfl, ⟨⟨hcr, hpu, hbr, hst, hhu, hto, how, hbu, hpr, hnw, hdy, hje, hpg, hwd, hro, hlw⟩, hT, hF, hS, hI, hFe, hBy, hSw, hM, hW, h44⟩⟩)

set_option maxRecDepth 100000 in
set_option maxHeartbeats 4000000 in
theorem st_at {i : Int} (h : Inv f g) : StP 201 60 [iI i] f g := by
  obtain ⟨hH, hT, hF, hS, hI, hFe, hBy, hSw, hM, hW, h44⟩ := h
  obtain ⟨hcr, hpu, hbr, hst, hhu, hto, how, hbu, hpr, hnw, hdy, hje, hpg, hwd, hro, hlw⟩ := id hH
  have ep : f (fv 79 13) 0 = f (fv 10 1) 0 := hpg.1.symm
  refine k_at (by decide) hpg.2.1 (fun hc => ⟨_, rfl, ?_⟩) (fun hc => ⟨_, rfl, ?_⟩)
  · exact c_at (by decide) (by rw [ep]; exact hpg.2.1) (fun hk => ⟨by rw [(hpg.2.2 i hc.1 hc.2).1], ⟨⟨hcr, hpu, hbr, hst, hhu, hto, how, hbu, hpr, hnw, hdy, hje, hpg, hwd, hro, hlw⟩, hT, hF, hS, hI, hFe, hBy, hSw, hM, hW, h44⟩⟩) (fun hk => absurd hc (by rw [ep] at hk; exact hk))
  · exact c_at (by decide) (by rw [ep]; exact hpg.2.1) (fun hk => absurd (by rw [ep] at hk; exact hk) hc) (fun hk => ⟨rfl, ⟨⟨hcr, hpu, hbr, hst, hhu, hto, how, hbu, hpr, hnw, hdy, hje, hpg, hwd, hro, hlw⟩, hT, hF, hS, hI, hFe, hBy, hSw, hM, hW, h44⟩⟩)

set_option maxRecDepth 100000 in
set_option maxHeartbeats 4000000 in
theorem st_pays {i : Int} (h : Inv f g) : StP 202 61 [iI i] f g := by
  obtain ⟨hH, hT, hF, hS, hI, hFe, hBy, hSw, hM, hW, h44⟩ := h
  obtain ⟨hcr, hpu, hbr, hst, hhu, hto, how, hbu, hpr, hnw, hdy, hje, hpg, hwd, hro, hlw⟩ := id hH
  have ep : f (fv 79 13) 0 = f (fv 10 1) 0 := hpg.1.symm
  refine k_pays (by decide) (v_row hH) (v_co hH) hlw.1 hlw.2.2.2.1 hdy.2 hM (fun f1 g1 hc hm => ⟨_, rfl, ?_⟩) (fun hc => ⟨_, rfl, ?_⟩)
  · refine c_pays (by decide) (show pgB f from v_pgB hH) (show oB f from v_o hH) (show lB f from hlw.2.1) (by show 0 ≤ f (fv 79 12) 0 ∧ f (fv 79 12) 0 ≤ 9999; rw [← hdy.1]; exact hdy.2) (fun f2 hk => ⟨?_, ⟨⟨hcr, hpu, hbr, hst, hhu, hto, how, hbu, hpr, hnw, hdy, hje, hpg, hwd, hro, hlw⟩, hT, hF, hS, hI, hFe, hBy, hSw, hm, hW, h44⟩⟩) (fun hk => absurd ?_ hk)
    · show some (iI (pyI (aR f) (oR f) (f (fv 79 12) 0) (lwR f) (f 88) (f (fv 79 13) 0) i)) = _
      have hr := (hpg.2.2 i hc.1 hc.2.1).2
      have e1 : pyI (aC f) (f 7) (f (fv 1 15) 0) (lwC f) (f 11) (f (fv 10 1) 0) i = pyI (aR f) (oR f) (f (fv 79 12) 0) (lwR f) (f 88) (f (fv 79 13) 0) i := by
        rw [pyI_ab (ab := aC f) (ab' := aC f) (ow := f 7) (ow' := oR f) (fun k _ _ => rfl) (v_ow hH _ hr.1 (by omega)) hc.1 hc.2.1, pyI_cg (fun k k0 k1 => (hpg.2.2 k k0 k1).1) hc.1 hc.2.1, v_ab hH, hdy.1, hlw.2.2.1, hpg.1]
      rw [e1]
    · show 0 ≤ i ∧ i < f (fv 79 13) 0 ∧ ¬ f 88 i = 29
      rw [ep, ← (hpg.2.2 i hc.1 hc.2.1).1]; exact hc
  · refine c_pays (by decide) (show pgB f from v_pgB hH) (show oB f from v_o hH) (show lB f from hlw.2.1) (by show 0 ≤ f (fv 79 12) 0 ∧ f (fv 79 12) 0 ≤ 9999; rw [← hdy.1]; exact hdy.2) (fun f2 hk => absurd ?_ hc) (fun hk => ⟨rfl, ⟨⟨hcr, hpu, hbr, hst, hhu, hto, how, hbu, hpr, hnw, hdy, hje, hpg, hwd, hro, hlw⟩, hT, hF, hS, hI, hFe, hBy, hSw, hM, hW, h44⟩⟩)
    have hk : 0 ≤ i ∧ i < f (fv 79 13) 0 ∧ ¬ f 88 i = 29 := hk
    rw [ep] at hk
    exact ⟨hk.1, hk.2.1, by rw [(hpg.2.2 i hk.1 hk.2.1).1]; exact hk.2.2⟩

set_option maxRecDepth 100000 in
set_option maxHeartbeats 4000000 in
theorem st_roll {i w : Int} (h : Inv f g) : StP 203 62 [iI i, iI w] f g := by
  obtain ⟨hH, hT, hF, hS, hI, hFe, hBy, hSw, hM, hW, h44⟩ := h
  obtain ⟨hcr, hpu, hbr, hst, hhu, hto, how, hbu, hpr, hnw, hdy, hje, hpg, hwd, hro, hlw⟩ := id hH
  have er : f 80 37 = f (fv 1 13) 0 := hnw.1.symm
  refine k_roll (by decide) hnw.2.2.2 (fun hc => ⟨_, rfl, ?_⟩) (fun hc => ⟨_, rfl, ?_⟩)
  · exact c_roll (by decide) (by rw [er]; exact hnw.2.2.2) (fun hk => ⟨by rw [hro (i * 5 + w) (by omega) (by omega), show i * 5 + w = 5 * i + w by omega], ⟨⟨hcr, hpu, hbr, hst, hhu, hto, how, hbu, hpr, hnw, hdy, hje, hpg, hwd, hro, hlw⟩, hT, hF, hS, hI, hFe, hBy, hSw, hM, hW, h44⟩⟩) (fun hk => absurd hc (by rw [er] at hk; exact hk))
  · exact c_roll (by decide) (by rw [er]; exact hnw.2.2.2) (fun hk => absurd (by rw [er] at hk; exact hk) hc) (fun hk => ⟨rfl, ⟨⟨hcr, hpu, hbr, hst, hhu, hto, how, hbu, hpr, hnw, hdy, hje, hpg, hwd, hro, hlw⟩, hT, hF, hS, hI, hFe, hBy, hSw, hM, hW, h44⟩⟩)

set_option maxRecDepth 100000 in
set_option maxHeartbeats 4000000 in
theorem st_look {w : Int} (h : Inv f g) : StP 212 84 [iI w] f g := by
  obtain ⟨hH, hT, hF, hS, hI, hFe, hBy, hSw, hM, hW, h44⟩ := h
  obtain ⟨hcr, hpu, hbr, hst, hhu, hto, how, hbu, hpr, hnw, hdy, hje, hpg, hwd, hro, hlw⟩ := id hH
  refine k_look (by decide) (fun hc => ⟨_, rfl, ?_⟩) (fun hc => ⟨_, rfl, ?_⟩) (fun hc => ⟨_, rfl, ?_⟩) (fun hc => ⟨_, rfl, ?_⟩) (fun hc => ⟨_, rfl, ?_⟩) (fun hc => ⟨_, rfl, ?_⟩) (fun hc => ⟨_, rfl, ?_⟩) (fun hc => ⟨_, rfl, ?_⟩) (fun hc => ⟨_, rfl, ?_⟩) (fun hc => ⟨_, rfl, ?_⟩) (fun hc => ⟨_, rfl, ?_⟩)
  · exact c_look (by decide) (fun hk => ⟨by rw [hcr.1], ⟨⟨hcr, hpu, hbr, hst, hhu, hto, how, hbu, hpr, hnw, hdy, hje, hpg, hwd, hro, hlw⟩, hT, hF, hS, hI, hFe, hBy, hSw, hM, hW, h44⟩⟩) (fun hk => absurd hk (by omega)) (fun hk => absurd hk (by omega)) (fun hk => absurd hk (by omega)) (fun hk => absurd hk (by omega)) (fun hk => absurd hk (by omega)) (fun hk => absurd hk (by omega)) (fun hk => absurd hk (by omega)) (fun hk => absurd hk (by omega)) (fun hk => absurd hk (by omega)) (fun hk => absurd hk (by omega))
  · exact c_look (by decide) (fun hk => absurd hk (by omega)) (fun hk => ⟨by rw [hpg.1], ⟨⟨hcr, hpu, hbr, hst, hhu, hto, how, hbu, hpr, hnw, hdy, hje, hpg, hwd, hro, hlw⟩, hT, hF, hS, hI, hFe, hBy, hSw, hM, hW, h44⟩⟩) (fun hk => absurd hk (by omega)) (fun hk => absurd hk (by omega)) (fun hk => absurd hk (by omega)) (fun hk => absurd hk (by omega)) (fun hk => absurd hk (by omega)) (fun hk => absurd hk (by omega)) (fun hk => absurd hk (by omega)) (fun hk => absurd hk (by omega)) (fun hk => absurd hk (by omega))
  · exact c_look (by decide) (fun hk => absurd hk (by omega)) (fun hk => absurd hk (by omega)) (fun hk => ⟨by rw [hwd.1], ⟨⟨hcr, hpu, hbr, hst, hhu, hto, how, hbu, hpr, hnw, hdy, hje, hpg, hwd, hro, hlw⟩, hT, hF, hS, hI, hFe, hBy, hSw, hM, hW, h44⟩⟩) (fun hk => absurd hk (by omega)) (fun hk => absurd hk (by omega)) (fun hk => absurd hk (by omega)) (fun hk => absurd hk (by omega)) (fun hk => absurd hk (by omega)) (fun hk => absurd hk (by omega)) (fun hk => absurd hk (by omega)) (fun hk => absurd hk (by omega))
  · exact c_look (by decide) (fun hk => absurd hk (by omega)) (fun hk => absurd hk (by omega)) (fun hk => absurd hk (by omega)) (fun hk => ⟨by rw [hnw.1], ⟨⟨hcr, hpu, hbr, hst, hhu, hto, how, hbu, hpr, hnw, hdy, hje, hpg, hwd, hro, hlw⟩, hT, hF, hS, hI, hFe, hBy, hSw, hM, hW, h44⟩⟩) (fun hk => absurd hk (by omega)) (fun hk => absurd hk (by omega)) (fun hk => absurd hk (by omega)) (fun hk => absurd hk (by omega)) (fun hk => absurd hk (by omega)) (fun hk => absurd hk (by omega)) (fun hk => absurd hk (by omega))
  · exact c_look (by decide) (fun hk => absurd hk (by omega)) (fun hk => absurd hk (by omega)) (fun hk => absurd hk (by omega)) (fun hk => absurd hk (by omega)) (fun hk => ⟨by rw [hnw.2.1], ⟨⟨hcr, hpu, hbr, hst, hhu, hto, how, hbu, hpr, hnw, hdy, hje, hpg, hwd, hro, hlw⟩, hT, hF, hS, hI, hFe, hBy, hSw, hM, hW, h44⟩⟩) (fun hk => absurd hk (by omega)) (fun hk => absurd hk (by omega)) (fun hk => absurd hk (by omega)) (fun hk => absurd hk (by omega)) (fun hk => absurd hk (by omega)) (fun hk => absurd hk (by omega))
  · exact c_look (by decide) (fun hk => absurd hk (by omega)) (fun hk => absurd hk (by omega)) (fun hk => absurd hk (by omega)) (fun hk => absurd hk (by omega)) (fun hk => absurd hk (by omega)) (fun hk => ⟨by rw [hdy.1], ⟨⟨hcr, hpu, hbr, hst, hhu, hto, how, hbu, hpr, hnw, hdy, hje, hpg, hwd, hro, hlw⟩, hT, hF, hS, hI, hFe, hBy, hSw, hM, hW, h44⟩⟩) (fun hk => absurd hk (by omega)) (fun hk => absurd hk (by omega)) (fun hk => absurd hk (by omega)) (fun hk => absurd hk (by omega)) (fun hk => absurd hk (by omega))
  · exact c_look (by decide) (fun hk => absurd hk (by omega)) (fun hk => absurd hk (by omega)) (fun hk => absurd hk (by omega)) (fun hk => absurd hk (by omega)) (fun hk => absurd hk (by omega)) (fun hk => absurd hk (by omega)) (fun hk => ⟨by rw [hje.1], ⟨⟨hcr, hpu, hbr, hst, hhu, hto, how, hbu, hpr, hnw, hdy, hje, hpg, hwd, hro, hlw⟩, hT, hF, hS, hI, hFe, hBy, hSw, hM, hW, h44⟩⟩) (fun hk => absurd hk (by omega)) (fun hk => absurd hk (by omega)) (fun hk => absurd hk (by omega)) (fun hk => absurd hk (by omega))
  · exact c_look (by decide) (fun hk => absurd hk (by omega)) (fun hk => absurd hk (by omega)) (fun hk => absurd hk (by omega)) (fun hk => absurd hk (by omega)) (fun hk => absurd hk (by omega)) (fun hk => absurd hk (by omega)) (fun hk => absurd hk (by omega)) (fun hk => ⟨by rw [hlw.2.2.2.2], ⟨⟨hcr, hpu, hbr, hst, hhu, hto, how, hbu, hpr, hnw, hdy, hje, hpg, hwd, hro, hlw⟩, hT, hF, hS, hI, hFe, hBy, hSw, hM, hW, h44⟩⟩) (fun hk => absurd hk (by omega)) (fun hk => absurd hk (by omega)) (fun hk => absurd hk (by omega))
  · exact c_look (by decide) (fun hk => absurd hk (by omega)) (fun hk => absurd hk (by omega)) (fun hk => absurd hk (by omega)) (fun hk => absurd hk (by omega)) (fun hk => absurd hk (by omega)) (fun hk => absurd hk (by omega)) (fun hk => absurd hk (by omega)) (fun hk => absurd hk (by omega)) (fun hk => ⟨by rw [hS.1], ⟨⟨hcr, hpu, hbr, hst, hhu, hto, how, hbu, hpr, hnw, hdy, hje, hpg, hwd, hro, hlw⟩, hT, hF, hS, hI, hFe, hBy, hSw, hM, hW, h44⟩⟩) (fun hk => absurd hk (by omega)) (fun hk => absurd hk (by omega))
  · exact c_look (by decide) (fun hk => absurd hk (by omega)) (fun hk => absurd hk (by omega)) (fun hk => absurd hk (by omega)) (fun hk => absurd hk (by omega)) (fun hk => absurd hk (by omega)) (fun hk => absurd hk (by omega)) (fun hk => absurd hk (by omega)) (fun hk => absurd hk (by omega)) (fun hk => absurd hk (by omega)) (fun hk => ⟨by rw [hnw.2.2.1], ⟨⟨hcr, hpu, hbr, hst, hhu, hto, how, hbu, hpr, hnw, hdy, hje, hpg, hwd, hro, hlw⟩, hT, hF, hS, hI, hFe, hBy, hSw, hM, hW, h44⟩⟩) (fun hk => absurd hk (by omega))
  · exact c_look (by decide) (fun hk => absurd hk (by omega)) (fun hk => absurd hk (by omega)) (fun hk => absurd hk (by omega)) (fun hk => absurd hk (by omega)) (fun hk => absurd hk (by omega)) (fun hk => absurd hk (by omega)) (fun hk => absurd hk (by omega)) (fun hk => absurd hk (by omega)) (fun hk => absurd hk (by omega)) (fun hk => absurd hk (by omega)) (fun hk => ⟨rfl, ⟨⟨hcr, hpu, hbr, hst, hhu, hto, how, hbu, hpr, hnw, hdy, hje, hpg, hwd, hro, hlw⟩, hT, hF, hS, hI, hFe, hBy, hSw, hM, hW, h44⟩⟩)

set_option maxRecDepth 100000 in
set_option maxHeartbeats 4000000 in
theorem st_can (h : Inv f g) : StP 206 72 [] f g := by
  obtain ⟨hH, hT, hF, hS, hI, hFe, hBy, hSw, hM, hW, h44⟩ := h
  obtain ⟨hcr, hpu, hbr, hst, hhu, hto, how, hbu, hpr, hnw, hdy, hje, hpg, hwd, hro, hlw⟩ := id hH
  have ew : f (fv 79 17) 0 = f (fv 12 2) 0 := hwd.1.symm
  have hwr := v_wlR hH
  refine k_can (by decide) (v_wl hH) (v_co hH) (fun f1 => ⟨_, rfl, ?_⟩)
  refine c_can (by decide) hwr.1 hwr.2 (v_o hH) ⟨?_, ⟨⟨hcr, hpu, hbr, hst, hhu, hto, how, hbu, hpr, hnw, hdy, hje, hpg, hwd, hro, hlw⟩, hT, hF, hS, hI, hFe, hBy, hSw, hM, hW, h44⟩⟩
  show some (iI (stI (fun w => decide (cI (fun j => !(aR f) (f 91 (12 * w + j))) (f 90 w) = 0)) (f (fv 79 17) 0))) = _
  rw [ew, stI_cg (p := fun w => decide (cI (fun j => !(aC f) (f 13 (12 * w + j))) (f 14 w) = 0)) (q := fun w => decide (cI (fun j => !(aR f) (f 91 (12 * w + j))) (f 90 w) = 0)) (fun k k0 k1 => by
    have q := hwd.2.2 k k0 k1
    show decide (cI (fun j => !(aC f) (f 13 (12 * k + j))) (f 14 k) = 0) = decide (cI (fun j => !(aR f) (f 91 (12 * k + j))) (f 90 k) = 0)
    rw [cI_congr (p := fun j => !(aC f) (f 13 (12 * k + j))) (q := fun j => !(aR f) (f 91 (12 * k + j))) (fun j j0 j1 => by show (!(aC f) (f 13 (12 * k + j))) = (!(aR f) (f 91 (12 * k + j))); rw [(q.2.2.2 j j0 j1).1, v_ab hH]), q.1])]

set_option maxRecDepth 100000 in
set_option maxHeartbeats 4000000 in
theorem st_liars (h : Inv f g) : StP 209 79 [] f g := by
  obtain ⟨hH, hT, hF, hS, hI, hFe, hBy, hSw, hM, hW, h44⟩ := h
  obtain ⟨hcr, hpu, hbr, hst, hhu, hto, how, hbu, hpr, hnw, hdy, hje, hpg, hwd, hro, hlw⟩ := id hH
  have ec : f (fv 79 4) 0 = f (fv 1 0) 0 := hcr.1.symm
  have hcr2 := hcr.2
  have hto9 : ∀ a, 0 ≤ a → a < 8 → 0 ≤ f 85 a ∧ f 85 a ≤ 100000 := fun a a0 a1 => (hto a a0 a1).2.1
  refine k_liars (by decide) hcr.2 ⟨_, rfl, ?_⟩
  refine c_liars (by decide) (by rw [ec]; exact hcr.2) hto9 (v_o hH) ⟨?_, ⟨⟨hcr, hpu, hbr, hst, hhu, hto, how, hbu, hpr, hnw, hdy, hje, hpg, hwd, hro, hlw⟩, hT, hF, hS, hI, hFe, hBy, hSw, hM, hW, h44⟩⟩
  rw [ec, stI_cg (p := fun a => decide (¬ f 6 a = -1 ∧ ¬ f 6 a = wsI (f 9) (fun s => decide (f 7 s = a)) 29)) (q := fun a => decide (0 < f 85 a ∧ ¬ f 85 a - 1 = wsI (fun s => f 80 (8 + s)) (fun s => decide (f 86 s - 1 = a)) 29)) (fun k k0 k1 => by
    have q := hto k k0 (by omega)
    have q1 := q.1 k1
    show decide (¬ f 6 k = -1 ∧ ¬ f 6 k = wsI (f 9) (fun s => decide (f 7 s = k)) 29) = decide (0 < f 85 k ∧ ¬ f 85 k - 1 = wsI (fun s => f 80 (8 + s)) (fun s => decide (f 86 s - 1 = k)) 29)
    rw [wsI_cg (h := f 9) (h' := fun s => f 80 (8 + s)) (p := fun s => decide (f 7 s = k)) (q := fun s => decide (f 86 s - 1 = k)) (fun s s0 s1 => ⟨by show decide (f 7 s = k) = decide (f 86 s - 1 = k); rw [(how s s0 s1).1], hpr s s0 s1⟩), q1]
    exact decide_eq_decide.mpr ⟨fun h => ⟨by omega, h.2⟩, fun h => ⟨by omega, h.2⟩⟩)]

set_option maxRecDepth 100000 in
set_option maxHeartbeats 4000000 in
theorem st_hurts {a w : Int} (h : Inv f g) : StP 207 75 [iI a, iI w] f g := by
  obtain ⟨hH, hT, hF, hS, hI, hFe, hBy, hSw, hM, hW, h44⟩ := h
  obtain ⟨hcr, hpu, hbr, hst, hhu, hto, how, hbu, hpr, hnw, hdy, hje, hpg, hwd, hro, hlw⟩ := id hH
  have ec : f (fv 79 4) 0 = f (fv 1 0) 0 := hcr.1.symm
  have hcr2 := hcr.2
  have eab2 : aCs f a = aRs f a := abl_eq (fun s s0 s1 => ⟨(hbu s s0 s1).1, (how s s0 s1).1⟩) (fun s s0 s1 s2 => by
    have q := how s s0 s1
    show up (f 4) a 1 (f 7 s) = up (f 83) a 1 (f 7 s)
    by_cases e : f 7 s = a
    · rw [e, up_s, up_s]
    · rw [up_n e, up_n e]; exact (hst _ s2 (by omega)).1)
  have eH : hurM (aC f) (aCs f a) (f 7) (f (fv 1 15) 0) (lwC f) (f 11) (f (fv 10 1) 0) (f (fv 1 0) 0) a w = hurM (aR f) (aRs f a) (oR f) (f (fv 79 12) 0) (lwR f) (f 88) (f (fv 79 13) 0) (f (fv 79 4) 0) a w := by
    have e2 : ∀ o, enI (aCs f a) (f 7) (f (fv 1 15) 0) (lwC f) (f 11) (f (fv 10 1) 0) o = enI (aRs f a) (oR f) (f (fv 79 12) 0) (lwR f) (f 88) (f (fv 79 13) 0) o := fun o => by
      rw [en_ow (ab := aCs f a) abl_in (v_ow hH), enI_cg (fun k k0 k1 => (hpg.2.2 k k0 k1).1), eab2, hdy.1, hlw.2.2.1, hpg.1]
    unfold hurM
    simp only [e2, v_en hH]
    simp only [ec, eab2, v_ab hH]
    rw [cI_congr (p := fun i => decide (¬ f 11 i = 29) && !aRs f a (f 11 i)) (q := fun i => decide (¬ f 88 i = 29) && !aRs f a (f 88 i)) (fun k k0 k1 => by show (decide (¬ f 11 k = 29) && !aRs f a (f 11 k)) = _; rw [(hpg.2.2 k k0 k1).1]), cI_congr (p := fun i => decide (¬ f 11 i = 29) && !aR f (f 11 i)) (q := fun i => decide (¬ f 88 i = 29) && !aR f (f 88 i)) (fun k k0 k1 => by show (decide (¬ f 11 k = 29) && !aR f (f 11 k)) = _; rw [(hpg.2.2 k k0 k1).1]), hpg.1]
  refine k_hurts (by decide) hcr.2 (v_row hH) (v_co hH) hlw.1 hlw.2.2.2.1 hdy.2 hM (fun hc => ⟨_, rfl, ?_⟩) (fun hc h1 => ⟨_, rfl, ?_⟩) (fun f1 g1 hc h1 hm h4 => ⟨_, rfl, ?_⟩) (fun f1 hc h1 => ⟨_, rfl, ?_⟩)
  · exact c_hurts (by decide) (by show 0 ≤ f (fv 79 4) 0 ∧ f (fv 79 4) 0 ≤ 8; rw [← hcr.1]; exact hcr.2) (show pgB f from v_pgB hH) (show oB f from v_o hH) (show lB f from hlw.2.1) (by show 0 ≤ f (fv 79 12) 0 ∧ f (fv 79 12) 0 ≤ 9999; rw [← hdy.1]; exact hdy.2) (fun f2 hk _ => absurd (by rw [ec] at hk; exact hk) hc) (fun hk => ⟨rfl, ⟨⟨hcr, hpu, hbr, hst, hhu, hto, how, hbu, hpr, hnw, hdy, hje, hpg, hwd, hro, hlw⟩, hT, hF, hS, hI, hFe, hBy, hSw, hM, hW, h44⟩⟩)
  · refine c_hurts (by decide) (by show 0 ≤ f (fv 79 4) 0 ∧ f (fv 79 4) 0 ≤ 8; rw [← hcr.1]; exact hcr.2) (show pgB f from v_pgB hH) (show oB f from v_o hH) (show lB f from hlw.2.1) (by show 0 ≤ f (fv 79 12) 0 ∧ f (fv 79 12) 0 ≤ 9999; rw [← hdy.1]; exact hdy.2) (fun f2 hk h83 => ⟨?_, ⟨⟨hcr, hpu, hbr, (by show iSt (f (fv 1 0) 0) (f 4) (f2 83); rw [show f2 83 = f 83 from h83]; exact hst), hhu, hto, how, hbu, hpr, hnw, hdy, hje, hpg, hwd, hro, hlw⟩, hT, hF, hS, hI, hFe, hBy, hSw, hM, hW, h44⟩⟩) (fun hk => absurd (by show 0 ≤ a ∧ a < f (fv 79 4) 0 ∧ 0 ≤ w ∧ w ≤ 1; rw [ec]; exact hc) hk)
    show some (iI (hurM (aR f) (aRs f a) (oR f) (f (fv 79 12) 0) (lwR f) (f 88) (f (fv 79 13) 0) (f (fv 79 4) 0) a w)) = _
    have h41 : f 4 a = 1 := by have := (hst a hc.1 (by omega)).2.1; omega
    rw [← eH, show hurM (aC f) (aCs f a) (f 7) (f (fv 1 15) 0) (lwC f) (f 11) (f (fv 10 1) 0) (f (fv 1 0) 0) a w = 0 from hurt_z h41]
  · refine c_hurts (by decide) (by show 0 ≤ f (fv 79 4) 0 ∧ f (fv 79 4) 0 ≤ 8; rw [← hcr.1]; exact hcr.2) (show pgB f from v_pgB hH) (show oB f from v_o hH) (show lB f from hlw.2.1) (by show 0 ≤ f (fv 79 12) 0 ∧ f (fv 79 12) 0 ≤ 9999; rw [← hdy.1]; exact hdy.2) (fun f2 hk h83 => ⟨?_, ⟨⟨hcr, hpu, hbr, (by show iSt (f (fv 1 0) 0) (f1 4) (f2 83); rw [show f2 83 = f 83 from h83, h4]; exact hst), hhu, hto, how, hbu, hpr, hnw, hdy, hje, hpg, hwd, hro, hlw⟩, hT, hF, hS, hI, (by have q := hFe; unfold iFe EaC aC at q ⊢; exact (by show (¬ f (fv 62 0) 0 = 0 → FewP (fun row => alE (abl (f 8) (f 7) (f1 4)) (f 7) (f (fv 1 15) 0) (lwC f) (f 3) (f1 4) (f 8) (f (fv 1 0) 0) row (f (fv 10 1) 0)) (f 11) (f (fv 10 1) 0) (f 63)) ∧ _; rw [h4]; exact q)), (by show 0 ≤ f (fv 72 0) 0 → BuyP (vB (abl (f 8) (f 7) (f1 4)) (f 7) (f (fv 1 15) 0) (lwC f) (f 14) (f 13) (f (fv 72 0) 0)) (f (fv 12 2) 0) (fun w => f 73 w); rw [h4]; exact hBy), (by show ¬ f (fv 76 0) 0 = 0 → SwpP (gnQ (f 8) (f1 4) (f 7) (f (fv 1 15) 0) (lwC f) (f 11) (f (fv 10 1) 0)) (fun w => f 77 w); rw [h4]; exact hSw), hm, hW, h44⟩⟩) (fun hk => absurd (by show 0 ≤ a ∧ a < f (fv 79 4) 0 ∧ 0 ≤ w ∧ w ≤ 1; rw [ec]; exact hc) hk)
    show some (iI (hurM (aR f) (aRs f a) (oR f) (f (fv 79 12) 0) (lwR f) (f 88) (f (fv 79 13) 0) (f (fv 79 4) 0) a w)) = _
    rw [← eH, h1.2, show hurM (aC f) (aCs f a) (f 7) (f (fv 1 15) 0) (lwC f) (f 11) (f (fv 10 1) 0) (f (fv 1 0) 0) a 0 = _ from (hurt_0 hcr.2 (fun s s0 s1 => (how s s0 s1).2.2)).symm]
    rfl
  · refine c_hurts (by decide) (by show 0 ≤ f (fv 79 4) 0 ∧ f (fv 79 4) 0 ≤ 8; rw [← hcr.1]; exact hcr.2) (show pgB f from v_pgB hH) (show oB f from v_o hH) (show lB f from hlw.2.1) (by show 0 ≤ f (fv 79 12) 0 ∧ f (fv 79 12) 0 ≤ 9999; rw [← hdy.1]; exact hdy.2) (fun f2 hk h83 => ⟨?_, ⟨⟨hcr, hpu, hbr, (by show iSt (f (fv 1 0) 0) (f 4) (f2 83); rw [show f2 83 = f 83 from h83]; exact hst), hhu, hto, how, hbu, hpr, hnw, hdy, hje, hpg, hwd, hro, hlw⟩, hT, hF, hS, hI, hFe, hBy, hSw, hM, hW, h44⟩⟩) (fun hk => absurd (by show 0 ≤ a ∧ a < f (fv 79 4) 0 ∧ 0 ≤ w ∧ w ≤ 1; rw [ec]; exact hc) hk)
    show some (iI (hurM (aR f) (aRs f a) (oR f) (f (fv 79 12) 0) (lwR f) (f 88) (f (fv 79 13) 0) (f (fv 79 4) 0) a w)) = _
    rw [← eH, h1.2, show hurM (aC f) (aCs f a) (f 7) (f (fv 1 15) 0) (lwC f) (f 11) (f (fv 10 1) 0) (f (fv 1 0) 0) a 1 = _ from (hurt_1 hc.1).symm]
    rfl

end D3
