section D4
variable {f : iF} {g : iG}
/-! ===== the steps: day, fewest, buy, swap ===== -/
set_option maxRecDepth 100000 in
set_option maxHeartbeats 4000000 in
theorem st_day (h : Inv f g) : StP 198 55 [] f g := by
  obtain ⟨hH, hT, hF, hS, hI, hFe, hBy, hSw, hM, hW, h44⟩ := h
  obtain ⟨hcr, hpu, hbr, hst, hhu, hto, how, hbu, hpr, hnw, hdy, hje, hpg, hwd, hro, hlw⟩ := id hH
  have ec : f (fv 79 4) 0 = f (fv 1 0) 0 := hcr.1.symm
  have ed : f (fv 79 12) 0 = f (fv 1 15) 0 := hdy.1.symm
  have hcr2 := hcr.2
  have hp1 : ∀ a, 0 ≤ a → a < 8 → 0 ≤ f 2 a ∧ f 2 a ≤ 99999 ∧ 0 ≤ f 3 a ∧ f 3 a ≤ 99 := fun a a0 a1 => ⟨(hpu a a0 a1).2.1, (hpu a a0 a1).2.2, (hbr a a0 a1).2.1, (hbr a a0 a1).2.2⟩
  have hp2 : ∀ a, 0 ≤ a → a < 8 → 0 ≤ f 80 a ∧ f 80 a ≤ 99999 ∧ 0 ≤ f 82 a ∧ f 82 a ≤ 99 := fun a a0 a1 => by rw [← (hpu a a0 a1).1, ← (hbr a a0 a1).1]; exact hp1 a a0 a1
  have hdr : 0 ≤ f (fv 79 12) 0 ∧ f (fv 79 12) 0 ≤ 9999 := by rw [ed]; exact hdy.2
  refine k_day (by decide) hcr.2 hdy.2 hp1 (fun hc => ⟨_, rfl, ?_⟩) (fun f1 hc h1 h2 h3 h4 => ⟨_, rfl, ?_⟩)
  · exact c_day (by decide) (by rw [ec]; exact hcr.2) hdr hp2 (fun hk => ⟨rfl, ⟨⟨hcr, hpu, hbr, hst, hhu, hto, how, hbu, hpr, hnw, hdy, hje, hpg, hwd, hro, hlw⟩, hT, hF, hS, hI, hFe, hBy, hSw, hM, hW, h44⟩⟩) (fun f2 hk => absurd (by rw [ed]; have := hdy.2; omega) hk)
  · refine c_day (by decide) (by show 0 ≤ f (fv 79 4) 0 ∧ f (fv 79 4) 0 ≤ 8; rw [← hcr.1]; exact hcr.2) hdr hp2 (fun hk => absurd hk (by show ¬ f (fv 79 12) 0 = 9999; rw [ed]; omega)) (fun f2 hk k1 k2 k3 k4 => ⟨?_, ?_⟩)
    · show some (iI (cI (fun a => decide (f 80 a < f 82 a)) (f (fv 79 4) 0))) = _
      rw [ec, cI_congr (p := fun a => decide (f 2 a < f 3 a)) (q := fun a => decide (f 80 a < f 82 a)) (fun a a0 a1 => by show decide (f 2 a < f 3 a) = decide (f 80 a < f 82 a); rw [(hpu a a0 (by omega)).1, (hbr a a0 (by omega)).1])]
    · have k1 : ∀ a, 0 ≤ a → a < f (fv 79 4) 0 → f2 80 a = (if f 82 a ≤ f 80 a then f 80 a - f 82 a else f 80 a) := k1
      have k2 : ∀ a, 0 ≤ a → a < f (fv 79 4) 0 → f2 84 a = (if f 82 a ≤ f 80 a then f 84 a else w32 (f 84 a + 1)) := k2
      have k3 : (∀ k, f (fv 79 4) 0 ≤ k → f2 80 k = f 80 k) ∧ ∀ k, f (fv 79 4) 0 ≤ k → f2 84 k = f 84 k := k3
      have k4 : f2 (fv 79 12) 0 = f (fv 79 12) 0 + 1 ∧ f2 (fv 79 3) 0 = 0 := k4
      rw [ec] at k1 k2 k3
      have q1 : iPu (f1 2) (f2 80) := fun a a0 a1 => by
        have e := hpu a a0 a1
        have e2 := hbr a a0 a1
        by_cases c : a < f (fv 1 0) 0
        · rw [h1 a a0 c, k1 a a0 c, ← e.1, ← e2.1]
          refine ⟨rfl, ?_⟩
          split <;> omega
        · rw [h3.1 a (by omega), k3.1 a (by omega)]; exact e
      have q2 : iHu (f (fv 1 0) 0) (f1 5) (f2 84) := fun a a0 a1 => by
        have e := hhu a a0 a1
        by_cases c : a < f (fv 1 0) 0
        · rw [h2 a a0 c, k2 a a0 c, ← (hpu a a0 a1).1, ← (hbr a a0 a1).1, e.1]
          exact ⟨rfl, fun q => by omega⟩
        · rw [h3.2 a (by omega), k3.2 a (by omega)]; exact e
      have q3 : iPr (f 9) (f2 80) := fun s s0 s1 => by rw [k3.1 _ (by omega)]; exact hpr s s0 s1
      have q4 : iNw (f (fv 1 13) 0) (f (fv 1 14) 0) (f (fv 1 17) 0) (f2 80) := ⟨by rw [k3.1 _ (by omega)]; exact hnw.1, by rw [k3.1 _ (by omega)]; exact hnw.2.1, by rw [k3.1 _ (by omega)]; exact hnw.2.2.1, hnw.2.2.2⟩
      have q5 : iDy (f1 (fv 1 15) 0) (f2 (fv 79 12) 0) := by rw [h4.1, k4.1, ed]; exact ⟨rfl, by have := hdy.2; omega, by have := hdy.2; omega⟩
      exact ⟨⟨hcr, q1, hbr, hst, q2, hto, how, hbu, q3, q4, q5, hje, hpg, hwd, hro, hlw⟩, hT, hF, (by show iSh (f1 (fv 48 5) 0) (f2 (fv 79 3) 0) _ _ _ _ _ _ _; rw [h4.2.1, k4.2]; exact ⟨rfl, by decide, fun r r0 r1 => absurd r1 (by omega)⟩), hI, ⟨fun h => absurd h4.2.2.1 h, hFe.2⟩, fun h => absurd h (by show ¬ 0 ≤ f1 (fv 72 0) 0; rw [h4.2.2.2.1]; decide), fun h => absurd h4.2.2.2.2 h, hM, hW, h44⟩

set_option maxRecDepth 100000 in
set_option maxHeartbeats 4000000 in
theorem st_fewest {w : Int} (h : Inv f g) : StP 204 67 [iI w] f g := by
  obtain ⟨hH, hT, hF, hS, hI, hFe, hBy, hSw, hM, hW, h44⟩ := h
  obtain ⟨hcr, hpu, hbr, hst, hhu, hto, how, hbu, hpr, hnw, hdy, hje, hpg, hwd, hro, hlw⟩ := id hH
  have ec : f (fv 79 4) 0 = f (fv 1 0) 0 := hcr.1.symm
  have key : ∀ b : Int → Int, FewP (EaC f) (f 11) (f (fv 10 1) 0) b → FewP (EaR f) (f 88) (f (fv 79 13) 0) b := fun b q => by
    have q2 := Few_cg (E' := EaR f) (pg' := f 88) (fun k k0 k1 => (hpg.2.2 k k0 k1).1) (fun r r' hr => by
      unfold EaC EaR
      constructor
      · intro e
        have e2 := al_cg (ow' := oR f) (br' := f 82) (st' := f 83) (bu' := f 87) hcr.2.2 v_in (fun o o0 o1 => ⟨(hbr o o0 o1).1, (hst o o0 o1).1⟩) (fun s s0 s1 => ⟨(hbu s s0 s1).1, (how s s0 s1).1⟩) hr e
        rw [v_ab hH, hdy.1, hlw.2.2.1, hcr.1, hpg.1] at e2
        exact e2
      · intro e
        rw [← hdy.1, ← hlw.2.2.1, ← hcr.1, ← hpg.1, ← v_ab hH] at e
        exact al_cg hcr.2.2 v_in (fun o o0 o1 => ⟨(hbr o o0 o1).1.symm, (hst o o0 o1).1.symm⟩) (fun s s0 s1 => ⟨(hbu s s0 s1).1.symm, (how s s0 s1).1.symm⟩) (fun k k0 k1 => (hr k k0 k1).symm) e) q
    rw [hpg.1] at q2
    exact q2
  have hst9 : ∀ o, 0 ≤ o → o < 8 → f 4 o = 0 ∨ f 4 o = 1 := fun o o0 o1 => (hst o o0 o1).2.1
  have hbr9 : ∀ o, 0 ≤ o → o < 8 → 0 ≤ f 3 o ∧ f 3 o ≤ 99 := fun o o0 o1 => (hbr o o0 o1).2
  refine k_fewest (by decide) (v_row hH) hFe.2 (v_co hH) hst9 hbr9 hlw.1 hlw.2.2.2.1 hdy.2 hM (fun hc => ⟨_, rfl, ?_⟩) (fun hc h1 => ⟨_, rfl, ?_⟩) (fun f1 g1 hc h0 h1 h2 h3 => ⟨_, rfl, ?_⟩)
  · exact c_fewest (by decide) (by show 0 ≤ f (fv 79 4) 0 ∧ f (fv 79 4) 0 ≤ 8; rw [← hcr.1]; exact hcr.2) (show pgB f from v_pgB hH) (show oB f from v_o hH) (show lB f from hlw.2.1) (by show 0 ≤ f (fv 79 12) 0 ∧ f (fv 79 12) 0 ≤ 9999; rw [← hdy.1]; exact hdy.2) (fun ans r f2 hk => absurd hk hc) (fun hk => ⟨rfl, ⟨⟨hcr, hpu, hbr, hst, hhu, hto, how, hbu, hpr, hnw, hdy, hje, hpg, hwd, hro, hlw⟩, hT, hF, hS, hI, hFe, hBy, hSw, hM, hW, h44⟩⟩)
  · exact c_fewest (by decide) (by show 0 ≤ f (fv 79 4) 0 ∧ f (fv 79 4) 0 ≤ 8; rw [← hcr.1]; exact hcr.2) (show pgB f from v_pgB hH) (show oB f from v_o hH) (show lB f from hlw.2.1) (by show 0 ≤ f (fv 79 12) 0 ∧ f (fv 79 12) 0 ≤ 9999; rw [← hdy.1]; exact hdy.2) (fun ans r f2 hk h5 h6 => ⟨by rw [h6, FewP_u (key _ (hFe.1 h1)) h5 w hc.1 hc.2], ⟨⟨hcr, hpu, hbr, hst, hhu, hto, how, hbu, hpr, hnw, hdy, hje, hpg, hwd, hro, hlw⟩, hT, hF, hS, hI, hFe, hBy, hSw, hM, hW, h44⟩⟩) (fun hk => absurd hc hk)
  · exact c_fewest (by decide) (by show 0 ≤ f (fv 79 4) 0 ∧ f (fv 79 4) 0 ≤ 8; rw [← hcr.1]; exact hcr.2) (show pgB f from v_pgB hH) (show oB f from v_o hH) (show lB f from hlw.2.1) (by show 0 ≤ f (fv 79 12) 0 ∧ f (fv 79 12) 0 ≤ 9999; rw [← hdy.1]; exact hdy.2) (fun ans r f2 hk (h5 : FewP (EaR f) (f 88) (f (fv 79 13) 0) ans) h6 => ⟨by rw [h6, FewP_u (key _ h1) h5 w hc.1 hc.2], ⟨⟨hcr, hpu, hbr, hst, hhu, hto, how, hbu, hpr, hnw, hdy, hje, hpg, hwd, hro, hlw⟩, hT, hF, hS, hI, ⟨fun _ => h1, h2⟩, hBy, hSw, h3, hW, h44⟩⟩) (fun hk => absurd hc hk)

set_option maxRecDepth 100000 in
set_option maxHeartbeats 4000000 in
theorem st_buy {a w : Int} (h : Inv f g) : StP 205 71 [iI a, iI w] f g := by
  obtain ⟨hH, hT, hF, hS, hI, hFe, hBy, hSw, hM, hW, h44⟩ := h
  obtain ⟨hcr, hpu, hbr, hst, hhu, hto, how, hbu, hpr, hnw, hdy, hje, hpg, hwd, hro, hlw⟩ := id hH
  have ec : f (fv 79 4) 0 = f (fv 1 0) 0 := hcr.1.symm
  have ew : f (fv 79 17) 0 = f (fv 12 2) 0 := hwd.1.symm
  have key : ∀ b : Int → Int, BuyP (vB (aC f) (f 7) (f (fv 1 15) 0) (lwC f) (f 14) (f 13) a) (f (fv 12 2) 0) b → BuyP (vB (aR f) (oR f) (f (fv 79 12) 0) (lwR f) (f 90) (f 91) a) (f (fv 79 17) 0) b := fun b q => by
    rw [ew]
    refine Buy_cg (fun x y z hz => ?_) q
    rw [vB_cg (ow' := oR f) (L' := f 90) (W' := f 91) v_in (v_ow hH) (fun q q0 q1 => by have e := hwd.2.2 q q0 q1; exact ⟨e.1, e.2.1, fun j j0 j1 => (e.2.2.2 j j0 j1).1⟩) hz, v_ab hH, hdy.1, hlw.2.2.1]
  refine k_buy (by decide) hcr.2 (v_wl hH) (v_co hH) hlw.1 hlw.2.2.2.1 hdy.2 hM (fun hc => ⟨_, rfl, ?_⟩) (fun hc h1 => ⟨_, rfl, ?_⟩) (fun f1 g1 hc h0 h1 h2 => ⟨_, rfl, ?_⟩)
  · exact c_buy (by decide) (by show 0 ≤ f (fv 79 4) 0 ∧ f (fv 79 4) 0 ≤ 8; rw [← hcr.1]; exact hcr.2) (v_wlR hH) (show oB f from v_o hH) (show lB f from hlw.2.1) (by show 0 ≤ f (fv 79 12) 0 ∧ f (fv 79 12) 0 ≤ 9999; rw [← hdy.1]; exact hdy.2) (fun ans r f2 hk => absurd (by rw [ec, ew] at hk; exact hk) hc) (fun hk => ⟨rfl, ⟨⟨hcr, hpu, hbr, hst, hhu, hto, how, hbu, hpr, hnw, hdy, hje, hpg, hwd, hro, hlw⟩, hT, hF, hS, hI, hFe, hBy, hSw, hM, hW, h44⟩⟩)
  · exact c_buy (by decide) (by show 0 ≤ f (fv 79 4) 0 ∧ f (fv 79 4) 0 ≤ 8; rw [← hcr.1]; exact hcr.2) (v_wlR hH) (show oB f from v_o hH) (show lB f from hlw.2.1) (by show 0 ≤ f (fv 79 12) 0 ∧ f (fv 79 12) 0 ≤ 9999; rw [← hdy.1]; exact hdy.2) (fun ans r f2 hk h5 h6 => ⟨by rw [h6, ← BuyP_u (by rw [ew]; exact hwd.2.1.2) (key _ (by have q := hBy (by rw [h1]; exact hc.1); rw [h1] at q; exact q)) h5 w hc.2.2.2.1 hc.2.2.2.2], ⟨⟨hcr, hpu, hbr, hst, hhu, hto, how, hbu, hpr, hnw, hdy, hje, hpg, hwd, hro, hlw⟩, hT, hF, hS, hI, hFe, hBy, hSw, hM, hW, h44⟩⟩) (fun hk => absurd (by rw [ec, ew]; exact hc) hk)
  · exact c_buy (by decide) (by show 0 ≤ f (fv 79 4) 0 ∧ f (fv 79 4) 0 ≤ 8; rw [← hcr.1]; exact hcr.2) (show wlB (f 90) (f 91) (f (fv 79 17) 0) from v_wlR hH) (show oB f from v_o hH) (show lB f from hlw.2.1) (by show 0 ≤ f (fv 79 12) 0 ∧ f (fv 79 12) 0 ≤ 9999; rw [← hdy.1]; exact hdy.2) (fun ans r f2 hk (h5 : BuyP (vB (aR f) (oR f) (f (fv 79 12) 0) (lwR f) (f 90) (f 91) a) (f (fv 79 17) 0) ans) h6 => ⟨by rw [h6, ← BuyP_u (by rw [ew]; exact hwd.2.1.2) (key _ h1) h5 w hc.2.2.2.1 hc.2.2.2.2], ⟨⟨hcr, hpu, hbr, hst, hhu, hto, how, hbu, hpr, hnw, hdy, hje, hpg, hwd, hro, hlw⟩, hT, hF, hS, hI, hFe, (by show 0 ≤ f1 (fv 72 0) 0 → BuyP (vB (aC f) (f 7) (f (fv 1 15) 0) (lwC f) (f 14) (f 13) (f1 (fv 72 0) 0)) (f (fv 12 2) 0) (fun w => f1 73 w); rw [h0]; exact fun _ => h1), hSw, h2, hW, h44⟩⟩) (fun hk => absurd (by show 0 ≤ a ∧ a < f (fv 79 4) 0 ∧ ¬ f (fv 79 17) 0 = 0 ∧ 0 ≤ w ∧ w ≤ 3; rw [ec, ew]; exact hc) hk)

set_option maxRecDepth 100000 in
set_option maxHeartbeats 4000000 in
theorem st_swap {w : Int} (h : Inv f g) : StP 208 78 [iI w] f g := by
  obtain ⟨hH, hT, hF, hS, hI, hFe, hBy, hSw, hM, hW, h44⟩ := h
  obtain ⟨hcr, hpu, hbr, hst, hhu, hto, how, hbu, hpr, hnw, hdy, hje, hpg, hwd, hro, hlw⟩ := id hH
  have key : ∀ b : Int → Int, SwpP (gnQ (f 8) (f 4) (f 7) (f (fv 1 15) 0) (lwC f) (f 11) (f (fv 10 1) 0)) b → SwpP (gnQ (f 87) (f 83) (oR f) (f (fv 79 12) 0) (lwR f) (f 88) (f (fv 79 13) 0)) b := fun b q => by
    have q2 := Swp_cg (gnQ_cg (ow' := oR f) (bu' := f 87) (st' := f 83) (row' := f 88) (fun s s0 s1 => ⟨(hbu s s0 s1).1, (how s s0 s1).1⟩) (fun s s0 s1 => by have := (how s s0 s1).2.2; have := hcr.2; omega) (fun o o0 o1 => (hst o o0 o1).1) (fun k k0 k1 => (hpg.2.2 k k0 k1).1)) q
    rw [hdy.1, hlw.2.2.1, hpg.1] at q2
    exact q2
  refine k_swap (by decide) (v_row hH) (v_co hH) hlw.1 hlw.2.2.2.1 hdy.2 hM (fun hc => ⟨_, rfl, ?_⟩) (fun hc h1 => ⟨_, rfl, ?_⟩) (fun f1 g1 hc h0 h1 h7 h2 => ⟨_, rfl, ?_⟩)
  · exact c_swap (by decide) (show pgB f from v_pgB hH) (show oB f from v_o hH) (show lB f from hlw.2.1) (by show 0 ≤ f (fv 79 12) 0 ∧ f (fv 79 12) 0 ≤ 9999; rw [← hdy.1]; exact hdy.2) (fun ans r f2 hk => absurd hk hc) (fun hk => ⟨rfl, ⟨⟨hcr, hpu, hbr, hst, hhu, hto, how, hbu, hpr, hnw, hdy, hje, hpg, hwd, hro, hlw⟩, hT, hF, hS, hI, hFe, hBy, hSw, hM, hW, h44⟩⟩)
  · exact c_swap (by decide) (show pgB f from v_pgB hH) (show oB f from v_o hH) (show lB f from hlw.2.1) (by show 0 ≤ f (fv 79 12) 0 ∧ f (fv 79 12) 0 ≤ 9999; rw [← hdy.1]; exact hdy.2) (fun ans r f2 hk h5 h6 h86 => ⟨by rw [h6, ← SwpP_u (key _ (hSw h1)) h5 w hc.1 hc.2], ⟨⟨hcr, hpu, hbr, hst, hhu, hto, (by show iOw (f (fv 1 0) 0) (f 7) (f2 86); rw [show f2 86 = f 86 from h86]; exact how), hbu, hpr, hnw, hdy, hje, hpg, hwd, hro, hlw⟩, hT, hF, hS, hI, hFe, hBy, hSw, hM, hW, h44⟩⟩) (fun hk => absurd hc hk)
  · exact c_swap (by decide) (show pgB f from v_pgB hH) (show oB f from v_o hH) (show lB f from hlw.2.1) (by show 0 ≤ f (fv 79 12) 0 ∧ f (fv 79 12) 0 ≤ 9999; rw [← hdy.1]; exact hdy.2) (fun ans r f2 hk (h5 : SwpP (gnQ (f 87) (f 83) (oR f) (f (fv 79 12) 0) (lwR f) (f 88) (f (fv 79 13) 0)) ans) h6 h86 => ⟨by rw [h6, ← SwpP_u (key _ h1) h5 w hc.1 hc.2], ⟨⟨hcr, hpu, hbr, hst, hhu, hto, (by show iOw (f (fv 1 0) 0) (f1 7) (f2 86); rw [show f2 86 = f 86 from h86, h7]; exact how), hbu, hpr, hnw, hdy, hje, hpg, hwd, hro, hlw⟩, hT, hF, hS, hI, (by have q := hFe; show (¬ f (fv 62 0) 0 = 0 → FewP (fun row => alE (abl (f 8) (f1 7) (f 4)) (f1 7) (f (fv 1 15) 0) (lwC f) (f 3) (f 4) (f 8) (f (fv 1 0) 0) row (f (fv 10 1) 0)) (f 11) (f (fv 10 1) 0) (f 63)) ∧ _; rw [h7]; exact q), (by show 0 ≤ f (fv 72 0) 0 → BuyP (vB (abl (f 8) (f1 7) (f 4)) (f1 7) (f (fv 1 15) 0) (lwC f) (f 14) (f 13) (f (fv 72 0) 0)) (f (fv 12 2) 0) (fun w => f 73 w); rw [h7]; exact hBy), (by show _ → SwpP (gnQ (f 8) (f 4) (f1 7) (f (fv 1 15) 0) (lwC f) (f 11) (f (fv 10 1) 0)) (fun w => f1 77 w); rw [h7]; exact fun _ => h1), h2, hW, h44⟩⟩) (fun hk => absurd hc hk)

end D4
