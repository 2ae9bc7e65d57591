section D1
variable {f : iF} {g : iG}
/-! ===== the steps ===== -/
def StP (mc mr : Nat) (as : List iv) (f : iF) (g : iG) : Prop := wq 60 mc (iR 0 :: as) f g (fun v f1 g1 => ∃ x, v = some (iI x) ∧ wq 60 mr (iR 79 :: as) f1 g1 (fun v2 f2 g2 => v2 = some (iI x) ∧ Inv f2 g2))
set_option maxRecDepth 100000 in
set_option maxHeartbeats 4000000 in
theorem st_state {v : Int} (h : Inv f g) : StP 186 4 [iI v] f g := by
  obtain ⟨hH, hT, hF, hS, hI, hFe, hBy, hSw, hM, hW, h44⟩ := h
  obtain ⟨hcr, hpu, hbr, hst, hhu, hto, how, hbu, hpr, hnw, hdy, hje, hpg, hwd, hro, hlw⟩ := id hH
  refine k_state (by decide) ⟨_, rfl, ?_⟩
  refine c_state (by decide) ⟨by show some (iI (f 80 39)) = some (iI (f (fv 1 17) 0)); rw [hnw.2.2.1], ?_⟩
  exact ⟨⟨hcr, fun a a0 a1 => (by show f 2 a = wv f 80 39 v 80 a ∧ _; rw [wv_k (by omega)]; exact hpu a a0 a1), hbr, hst, hhu, hto, how, hbu, fun s s0 s1 => (by show f 9 s = wv f 80 39 v 80 (8 + s); rw [wv_k (by omega)]; exact hpr s s0 s1), ⟨hnw.1, hnw.2.1, rfl, hnw.2.2.2⟩, hdy, hje, hpg, hwd, hro, hlw⟩, hT, hF, ⟨rfl, by show (0 : Int) ≤ 0 ∧ (0 : Int) ≤ 6; decide, fun r r0 r1 => absurd r1 (by show ¬ r < 0; omega)⟩, hI, hFe, hBy, hSw, hM, hW, h44⟩

set_option maxRecDepth 100000 in
set_option maxHeartbeats 4000000 in
theorem st_apprentice {pu br : Int} (h : Inv f g) : StP 187 8 [iI pu, iI br] f g := by
  obtain ⟨hH, hT, hF, hS, hI, hFe, hBy, hSw, hM, hW, h44⟩ := h
  obtain ⟨hcr, hpu, hbr, hst, hhu, hto, how, hbu, hpr, hnw, hdy, hje, hpg, hwd, hro, hlw⟩ := id hH
  have hcr2 := hcr.2
  refine k_apprentice (by decide) hcr.2 (fun hc => ⟨_, rfl, ?_⟩) (fun hc => ⟨_, rfl, ?_⟩)
  · refine c_apprentice (by decide) (by show 0 ≤ f (fv 79 4) 0 ∧ f (fv 79 4) 0 ≤ 8; rw [← hcr.1]; exact hcr.2) (fun hk => ⟨by show some (iI (f (fv 79 4) 0 + 1 - 1)) = _; rw [← hcr.1, Int.add_sub_cancel], ?_⟩) (fun hk => absurd (by show 0 ≤ pu ∧ pu ≤ 99999 ∧ 0 ≤ br ∧ br ≤ 99 ∧ ¬ f (fv 79 4) 0 = 8; rw [← hcr.1]; omega) hk)
    have e0 : ∀ (A : iF) (c : Nat) (v a : Int), wv A c (0 + f (fv 79 4) 0) v c a = wv A c (f (fv 1 0) 0) v c a := fun A c v a => by rw [Int.zero_add, hcr.1]
    have e1 : ∀ (A : iF) (c : Nat) (v a : Int), wv A c (f (fv 79 4) 0) v c a = wv A c (f (fv 1 0) 0) v c a := fun A c v a => by rw [hcr.1]
    exact ⟨⟨⟨by show f (fv 1 0) 0 + 1 = f (fv 79 4) 0 + 1; rw [hcr.1], by show 0 ≤ f (fv 1 0) 0 + 1; omega, by show f (fv 1 0) 0 + 1 ≤ 8; omega⟩, fun a a0 a1 => (by show wv f 2 (f (fv 1 0) 0) pu 2 a = wv f 80 (0 + f (fv 79 4) 0) pu 80 a ∧ 0 ≤ wv f 2 (f (fv 1 0) 0) pu 2 a ∧ wv f 2 (f (fv 1 0) 0) pu 2 a ≤ 99999; rw [e0]; by_cases e : a = f (fv 1 0) 0; (rw [e, wv_s, wv_s]; omega); (rw [wv_k e, wv_k e]; exact hpu a a0 a1)), fun a a0 a1 => (by show wv f 3 (f (fv 1 0) 0) br 3 a = wv f 82 (f (fv 79 4) 0) br 82 a ∧ 0 ≤ wv f 3 (f (fv 1 0) 0) br 3 a ∧ wv f 3 (f (fv 1 0) 0) br 3 a ≤ 99; rw [e1]; by_cases e : a = f (fv 1 0) 0; (rw [e, wv_s, wv_s]; omega); (rw [wv_k e, wv_k e]; exact hbr a a0 a1)), fun a a0 a1 => (by show wv f 4 (f (fv 1 0) 0) 0 4 a = f 83 a ∧ (wv f 4 (f (fv 1 0) 0) 0 4 a = 0 ∨ wv f 4 (f (fv 1 0) 0) 0 4 a = 1) ∧ (f (fv 1 0) 0 + 1 ≤ a → wv f 4 (f (fv 1 0) 0) 0 4 a = 0); have q := hst a a0 a1; by_cases e : a = f (fv 1 0) 0; (rw [e] at q ⊢; rw [wv_s]; exact ⟨by rw [← q.1, q.2.2 (Int.le_refl _)], Or.inl rfl, fun _ => rfl⟩); (rw [wv_k e]; exact ⟨q.1, q.2.1, fun h => q.2.2 (by omega)⟩)), fun a a0 a1 => (by show wv f 5 (f (fv 1 0) 0) 0 5 a = f 84 a ∧ (f (fv 1 0) 0 + 1 ≤ a → wv f 5 (f (fv 1 0) 0) 0 5 a = 0); have q := hhu a a0 a1; by_cases e : a = f (fv 1 0) 0; (rw [e] at q ⊢; rw [wv_s]; exact ⟨by rw [← q.1, q.2 (Int.le_refl _)], fun _ => rfl⟩); (rw [wv_k e]; exact ⟨q.1, fun h => q.2 (by omega)⟩)), fun a a0 a1 => (by show (a < f (fv 1 0) 0 + 1 → wv f 6 (f (fv 1 0) 0) (-1) 6 a = f 85 a - 1) ∧ (0 ≤ f 85 a ∧ f 85 a ≤ 100000) ∧ (f (fv 1 0) 0 + 1 ≤ a → f 85 a = 0); have q := hto a a0 a1; refine ⟨fun h => ?_, q.2.1, fun h => q.2.2 (by omega)⟩; by_cases e : a = f (fv 1 0) 0; (rw [e] at q ⊢; rw [wv_s, q.2.2 (Int.le_refl _)]; rfl); (rw [wv_k e]; exact q.1 (by omega))), fun s s0 s1 => (by have q := how s s0 s1; exact ⟨q.1, q.2.1, by show f 7 s < f (fv 1 0) 0 + 1; omega⟩), hbu, fun s s0 s1 => (by show f 9 s = wv f 80 (0 + f (fv 79 4) 0) pu 80 (8 + s); rw [e0, wv_k (by omega)]; exact hpr s s0 s1), (by show iNw (f (fv 1 13) 0) (f (fv 1 14) 0) (f (fv 1 17) 0) (wv f 80 (0 + f (fv 79 4) 0) pu 80); exact ⟨by rw [e0, wv_k (by omega)]; exact hnw.1, by rw [e0, wv_k (by omega)]; exact hnw.2.1, by rw [e0, wv_k (by omega)]; exact hnw.2.2.1, hnw.2.2.2⟩), hdy, hje, hpg, hwd, hro, hlw⟩, hT, hF, ⟨rfl, by show (0 : Int) ≤ 0 ∧ (0 : Int) ≤ 6; decide, fun r r0 r1 => absurd r1 (by show ¬ r < 0; omega)⟩, hI, ⟨fun h => absurd rfl h, hFe.2⟩, fun h => absurd h (by show ¬ (0 : Int) ≤ -1; decide), fun h => absurd rfl h, hM, hW, h44⟩
  · exact c_apprentice (by decide) (by rw [← hcr.1]; exact hcr.2) (fun hk => absurd (by rw [← hcr.1] at hk; omega) hc) (fun hk => ⟨rfl, ⟨⟨hcr, hpu, hbr, hst, hhu, hto, how, hbu, hpr, hnw, hdy, hje, hpg, hwd, hro, hlw⟩, hT, hF, hS, hI, hFe, hBy, hSw, hM, hW, h44⟩⟩)

set_option maxRecDepth 100000 in
set_option maxHeartbeats 4000000 in
theorem st_own {s a : Int} (h : Inv f g) : StP 188 9 [iI s, iI a] f g := by
  obtain ⟨hH, hT, hF, hS, hI, hFe, hBy, hSw, hM, hW, h44⟩ := h
  obtain ⟨hcr, hpu, hbr, hst, hhu, hto, how, hbu, hpr, hnw, hdy, hje, hpg, hwd, hro, hlw⟩ := id hH
  refine k_own (by decide) hcr.2 (fun hc => ⟨_, rfl, ?_⟩) (fun hc => ⟨_, rfl, ?_⟩)
  · refine c_own (by decide) (by show 0 ≤ f (fv 79 4) 0 ∧ f (fv 79 4) 0 ≤ 8; rw [← hcr.1]; exact hcr.2) (fun hk => ⟨rfl, ?_⟩) (fun hk => absurd (by show 0 ≤ s ∧ s < 29 ∧ (a = (-1) ∨ 0 ≤ a ∧ a < f (fv 79 4) 0); rw [← hcr.1]; exact hc) hk)
    exact ⟨⟨hcr, hpu, hbr, hst, hhu, hto, fun t t0 t1 => (by show wv f 7 s a 7 t = wv f 86 s (a + 1) 86 t - 1 ∧ -1 ≤ wv f 7 s a 7 t ∧ wv f 7 s a 7 t < f (fv 1 0) 0; by_cases e : t = s; (rw [e, wv_s, wv_s]; have := hcr.2; omega); (rw [wv_k e, wv_k e]; exact how t t0 t1)), hbu, hpr, hnw, hdy, hje, hpg, hwd, hro, hlw⟩, hT, hF, ⟨rfl, by show (0 : Int) ≤ 0 ∧ (0 : Int) ≤ 6; decide, fun r r0 r1 => absurd r1 (by show ¬ r < 0; omega)⟩, hI, ⟨fun h => absurd rfl h, hFe.2⟩, fun h => absurd h (by show ¬ (0 : Int) ≤ -1; decide), fun h => absurd rfl h, hM, hW, h44⟩
  · exact c_own (by decide) (by rw [← hcr.1]; exact hcr.2) (fun hk => absurd (by rw [← hcr.1] at hk; exact hk) hc) (fun hk => ⟨rfl, ⟨⟨hcr, hpu, hbr, hst, hhu, hto, how, hbu, hpr, hnw, hdy, hje, hpg, hwd, hro, hlw⟩, hT, hF, hS, hI, hFe, hBy, hSw, hM, hW, h44⟩⟩)

end D1
