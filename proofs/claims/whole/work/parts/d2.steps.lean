section D2
variable {f : iF} {g : iG}
/-! ===== the steps, more ===== -/
theorem fdB_r {a b c d e q : Int} : 0 ≤ fdB a b c d e q ∧ fdB a b c d e q ≤ 255 := b_and_r _
theorem sgI_p {c : Int} (h : ¬ sgI c = -1) : 0 ≤ sgI c ∧ sgI c ≤ 29 := by
  unfold sgI at h ⊢
  (repeat' split) <;> (repeat' split at h) <;> omega
set_option maxRecDepth 100000 in
set_option maxHeartbeats 4000000 in
theorem st_set {w h1 v : Int} (h : Inv f g) : StP 189 11 [iI w, iI h1, iI v] f g := by
  obtain ⟨hH, hT, hF, hS, hI, hFe, hBy, hSw, hM, hW, h44⟩ := h
  obtain ⟨hcr, hpu, hbr, hst, hhu, hto, how, hbu, hpr, hnw, hdy, hje, hpg, hwd, hro, hlw⟩ := id hH
  have hcr2 := hcr.2
  have ec : f (fv 79 4) 0 = f (fv 1 0) 0 := hcr.1.symm
  have e0 : ∀ (A : iF) (c : Nat) (v a : Int), wv A c (0 + h1) v c a = wv A c h1 v c a := fun A c v a => by rw [Int.zero_add]
  refine k_set (by decide) hcr.2 (fun hc => ⟨_, rfl, ?_⟩) (fun hc => ⟨_, rfl, ?_⟩) (fun hc => ⟨_, rfl, ?_⟩) (fun hc => ⟨_, rfl, ?_⟩) (fun hc => ⟨_, rfl, ?_⟩) (fun hc => ⟨_, rfl, ?_⟩) (fun hc => ⟨_, rfl, ?_⟩)
  · refine c_set (by decide) (by show 0 ≤ f (fv 79 4) 0 ∧ f (fv 79 4) 0 ≤ 8; rw [← hcr.1]; exact hcr.2) (fun hk => ⟨rfl, ?_⟩) (fun hk => absurd hk (by omega)) (fun hk => absurd hk (by omega)) (fun hk => absurd hk (by omega)) (fun hk => absurd hk (by omega)) (fun hk => absurd hk (by omega)) (fun hk => absurd hk (by show ¬ ¬ ((w = 0 ∧ 0 ≤ v ∧ v ≤ 1000) ∨ (w = 1 ∧ 0 ≤ h1 ∧ h1 < 29 ∧ 0 ≤ v ∧ v ≤ 1) ∨ (0 ≤ h1 ∧ h1 < f (fv 79 4) 0 ∧ ((w = 2 ∧ 0 ≤ v ∧ v ≤ 99) ∨ (w = 3 ∧ 0 ≤ v ∧ v ≤ 1) ∨ (w = 4 ∧ 0 ≤ v ∧ v ≤ 99999) ∨ (w = 5 ∧ (-1) ≤ v ∧ v ≤ 99999)))); rw [ec]; omega))
    exact ⟨⟨hcr, hpu, hbr, hst, hhu, hto, how, hbu, hpr, hnw, hdy, ⟨rfl, hc.2⟩, hpg, hwd, hro, hlw⟩, hT, hF, ⟨rfl, by show (0 : Int) ≤ 0 ∧ (0 : Int) ≤ 6; decide, fun r r0 r1 => absurd r1 (by show ¬ r < 0; omega)⟩, hI, ⟨fun h => absurd rfl h, hFe.2⟩, fun h => absurd h (by show ¬ (0 : Int) ≤ -1; decide), fun h => absurd rfl h, hM, hW, h44⟩
  · refine c_set (by decide) (by show 0 ≤ f (fv 79 4) 0 ∧ f (fv 79 4) 0 ≤ 8; rw [← hcr.1]; exact hcr.2) (fun hk => absurd hk (by omega)) (fun hk => ⟨rfl, ?_⟩) (fun hk => absurd hk (by omega)) (fun hk => absurd hk (by omega)) (fun hk => absurd hk (by omega)) (fun hk => absurd hk (by omega)) (fun hk => absurd hk (by show ¬ ¬ ((w = 0 ∧ 0 ≤ v ∧ v ≤ 1000) ∨ (w = 1 ∧ 0 ≤ h1 ∧ h1 < 29 ∧ 0 ≤ v ∧ v ≤ 1) ∨ (0 ≤ h1 ∧ h1 < f (fv 79 4) 0 ∧ ((w = 2 ∧ 0 ≤ v ∧ v ≤ 99) ∨ (w = 3 ∧ 0 ≤ v ∧ v ≤ 1) ∨ (w = 4 ∧ 0 ≤ v ∧ v ≤ 99999) ∨ (w = 5 ∧ (-1) ≤ v ∧ v ≤ 99999)))); rw [ec]; omega))
    exact ⟨⟨hcr, hpu, hbr, hst, hhu, hto, how, fun a a0 a1 => (by show wv f 8 h1 v 8 a = wv f 87 h1 v 87 a ∧ (wv f 8 h1 v 8 a = 0 ∨ wv f 8 h1 v 8 a = 1); by_cases e : a = h1; (rw [e, wv_s, wv_s]; exact ⟨rfl, by omega⟩); (rw [wv_k e, wv_k e]; exact hbu a a0 a1)), hpr, hnw, hdy, hje, hpg, hwd, hro, hlw⟩, hT, hF, ⟨rfl, by show (0 : Int) ≤ 0 ∧ (0 : Int) ≤ 6; decide, fun r r0 r1 => absurd r1 (by show ¬ r < 0; omega)⟩, hI, ⟨fun h => absurd rfl h, hFe.2⟩, fun h => absurd h (by show ¬ (0 : Int) ≤ -1; decide), fun h => absurd rfl h, hM, hW, h44⟩
  · refine c_set (by decide) (by show 0 ≤ f (fv 79 4) 0 ∧ f (fv 79 4) 0 ≤ 8; rw [← hcr.1]; exact hcr.2) (fun hk => absurd hk (by omega)) (fun hk => absurd hk (by omega)) (fun hk => ⟨rfl, ?_⟩) (fun hk => absurd hk (by omega)) (fun hk => absurd hk (by omega)) (fun hk => absurd hk (by omega)) (fun hk => absurd hk (by show ¬ ¬ ((w = 0 ∧ 0 ≤ v ∧ v ≤ 1000) ∨ (w = 1 ∧ 0 ≤ h1 ∧ h1 < 29 ∧ 0 ≤ v ∧ v ≤ 1) ∨ (0 ≤ h1 ∧ h1 < f (fv 79 4) 0 ∧ ((w = 2 ∧ 0 ≤ v ∧ v ≤ 99) ∨ (w = 3 ∧ 0 ≤ v ∧ v ≤ 1) ∨ (w = 4 ∧ 0 ≤ v ∧ v ≤ 99999) ∨ (w = 5 ∧ (-1) ≤ v ∧ v ≤ 99999)))); rw [ec]; omega))
    exact ⟨⟨hcr, hpu, fun a a0 a1 => (by show wv f 3 h1 v 3 a = wv f 82 h1 v 82 a ∧ 0 ≤ wv f 3 h1 v 3 a ∧ wv f 3 h1 v 3 a ≤ 99; by_cases e : a = h1; (rw [e, wv_s, wv_s]; exact ⟨rfl, by omega⟩); (rw [wv_k e, wv_k e]; exact hbr a a0 a1)), hst, hhu, hto, how, hbu, hpr, hnw, hdy, hje, hpg, hwd, hro, hlw⟩, hT, hF, ⟨rfl, by show (0 : Int) ≤ 0 ∧ (0 : Int) ≤ 6; decide, fun r r0 r1 => absurd r1 (by show ¬ r < 0; omega)⟩, hI, ⟨fun h => absurd rfl h, hFe.2⟩, fun h => absurd h (by show ¬ (0 : Int) ≤ -1; decide), fun h => absurd rfl h, hM, hW, h44⟩
  · refine c_set (by decide) (by show 0 ≤ f (fv 79 4) 0 ∧ f (fv 79 4) 0 ≤ 8; rw [← hcr.1]; exact hcr.2) (fun hk => absurd hk (by omega)) (fun hk => absurd hk (by omega)) (fun hk => absurd hk (by omega)) (fun hk => ⟨rfl, ?_⟩) (fun hk => absurd hk (by omega)) (fun hk => absurd hk (by omega)) (fun hk => absurd hk (by show ¬ ¬ ((w = 0 ∧ 0 ≤ v ∧ v ≤ 1000) ∨ (w = 1 ∧ 0 ≤ h1 ∧ h1 < 29 ∧ 0 ≤ v ∧ v ≤ 1) ∨ (0 ≤ h1 ∧ h1 < f (fv 79 4) 0 ∧ ((w = 2 ∧ 0 ≤ v ∧ v ≤ 99) ∨ (w = 3 ∧ 0 ≤ v ∧ v ≤ 1) ∨ (w = 4 ∧ 0 ≤ v ∧ v ≤ 99999) ∨ (w = 5 ∧ (-1) ≤ v ∧ v ≤ 99999)))); rw [ec]; omega))
    exact ⟨⟨hcr, hpu, hbr, fun a a0 a1 => (by show wv f 4 h1 v 4 a = wv f 83 h1 v 83 a ∧ (wv f 4 h1 v 4 a = 0 ∨ wv f 4 h1 v 4 a = 1) ∧ (f (fv 1 0) 0 ≤ a → wv f 4 h1 v 4 a = 0); by_cases e : a = h1; (rw [e, wv_s, wv_s]; exact ⟨rfl, by omega, fun q => by omega⟩); (rw [wv_k e, wv_k e]; exact hst a a0 a1)), hhu, hto, how, hbu, hpr, hnw, hdy, hje, hpg, hwd, hro, hlw⟩, hT, hF, ⟨rfl, by show (0 : Int) ≤ 0 ∧ (0 : Int) ≤ 6; decide, fun r r0 r1 => absurd r1 (by show ¬ r < 0; omega)⟩, hI, ⟨fun h => absurd rfl h, hFe.2⟩, fun h => absurd h (by show ¬ (0 : Int) ≤ -1; decide), fun h => absurd rfl h, hM, hW, h44⟩
  · refine c_set (by decide) (by show 0 ≤ f (fv 79 4) 0 ∧ f (fv 79 4) 0 ≤ 8; rw [← hcr.1]; exact hcr.2) (fun hk => absurd hk (by omega)) (fun hk => absurd hk (by omega)) (fun hk => absurd hk (by omega)) (fun hk => absurd hk (by omega)) (fun hk => ⟨rfl, ?_⟩) (fun hk => absurd hk (by omega)) (fun hk => absurd hk (by show ¬ ¬ ((w = 0 ∧ 0 ≤ v ∧ v ≤ 1000) ∨ (w = 1 ∧ 0 ≤ h1 ∧ h1 < 29 ∧ 0 ≤ v ∧ v ≤ 1) ∨ (0 ≤ h1 ∧ h1 < f (fv 79 4) 0 ∧ ((w = 2 ∧ 0 ≤ v ∧ v ≤ 99) ∨ (w = 3 ∧ 0 ≤ v ∧ v ≤ 1) ∨ (w = 4 ∧ 0 ≤ v ∧ v ≤ 99999) ∨ (w = 5 ∧ (-1) ≤ v ∧ v ≤ 99999)))); rw [ec]; omega))
    exact ⟨⟨hcr, fun a a0 a1 => (by show wv f 2 h1 v 2 a = wv f 80 (0 + h1) v 80 a ∧ 0 ≤ wv f 2 h1 v 2 a ∧ wv f 2 h1 v 2 a ≤ 99999; rw [e0]; by_cases e : a = h1; (rw [e, wv_s, wv_s]; exact ⟨rfl, by omega, by omega⟩); (rw [wv_k e, wv_k e]; exact hpu a a0 a1)), hbr, hst, hhu, hto, how, hbu, fun s s0 s1 => (by show f 9 s = wv f 80 (0 + h1) v 80 (8 + s); rw [e0, wv_k (by omega)]; exact hpr s s0 s1), (by show iNw (f (fv 1 13) 0) (f (fv 1 14) 0) (f (fv 1 17) 0) (wv f 80 (0 + h1) v 80); exact ⟨by rw [e0, wv_k (by omega)]; exact hnw.1, by rw [e0, wv_k (by omega)]; exact hnw.2.1, by rw [e0, wv_k (by omega)]; exact hnw.2.2.1, hnw.2.2.2⟩), hdy, hje, hpg, hwd, hro, hlw⟩, hT, hF, ⟨rfl, by show (0 : Int) ≤ 0 ∧ (0 : Int) ≤ 6; decide, fun r r0 r1 => absurd r1 (by show ¬ r < 0; omega)⟩, hI, ⟨fun h => absurd rfl h, hFe.2⟩, fun h => absurd h (by show ¬ (0 : Int) ≤ -1; decide), fun h => absurd rfl h, hM, hW, h44⟩
  · refine c_set (by decide) (by show 0 ≤ f (fv 79 4) 0 ∧ f (fv 79 4) 0 ≤ 8; rw [← hcr.1]; exact hcr.2) (fun hk => absurd hk (by omega)) (fun hk => absurd hk (by omega)) (fun hk => absurd hk (by omega)) (fun hk => absurd hk (by omega)) (fun hk => absurd hk (by omega)) (fun hk => ⟨rfl, ?_⟩) (fun hk => absurd hk (by show ¬ ¬ ((w = 0 ∧ 0 ≤ v ∧ v ≤ 1000) ∨ (w = 1 ∧ 0 ≤ h1 ∧ h1 < 29 ∧ 0 ≤ v ∧ v ≤ 1) ∨ (0 ≤ h1 ∧ h1 < f (fv 79 4) 0 ∧ ((w = 2 ∧ 0 ≤ v ∧ v ≤ 99) ∨ (w = 3 ∧ 0 ≤ v ∧ v ≤ 1) ∨ (w = 4 ∧ 0 ≤ v ∧ v ≤ 99999) ∨ (w = 5 ∧ (-1) ≤ v ∧ v ≤ 99999)))); rw [ec]; omega))
    exact ⟨⟨hcr, hpu, hbr, hst, hhu, fun a a0 a1 => (by show (a < f (fv 1 0) 0 → wv f 6 h1 v 6 a = wv f 85 h1 (v + 1) 85 a - 1) ∧ (0 ≤ wv f 85 h1 (v + 1) 85 a ∧ wv f 85 h1 (v + 1) 85 a ≤ 100000) ∧ (f (fv 1 0) 0 ≤ a → wv f 85 h1 (v + 1) 85 a = 0); by_cases e : a = h1; (rw [e, wv_s, wv_s]; exact ⟨fun _ => by omega, by omega, fun q => by omega⟩); (rw [wv_k e, wv_k e]; exact hto a a0 a1)), how, hbu, hpr, hnw, hdy, hje, hpg, hwd, hro, hlw⟩, hT, hF, hS, hI, hFe, hBy, hSw, hM, hW, h44⟩
  · exact c_set (by decide) (by show 0 ≤ f (fv 79 4) 0 ∧ f (fv 79 4) 0 ≤ 8; rw [← hcr.1]; exact hcr.2) (fun hk => absurd hk (by first | omega | (rw [ec]; omega))) (fun hk => absurd hk (by first | omega | (rw [ec]; omega))) (fun hk => absurd hk (by first | omega | (rw [ec]; omega))) (fun hk => absurd hk (by first | omega | (rw [ec]; omega))) (fun hk => absurd hk (by first | omega | (rw [ec]; omega))) (fun hk => absurd hk (by first | omega | (rw [ec]; omega))) (fun hk => ⟨rfl, ⟨⟨hcr, hpu, hbr, hst, hhu, hto, how, hbu, hpr, hnw, hdy, hje, hpg, hwd, hro, hlw⟩, hT, hF, hS, hI, hFe, hBy, hSw, hM, hW, h44⟩⟩)

set_option maxRecDepth 100000 in
set_option maxHeartbeats 4000000 in
theorem st_feed {a b cc dd ee : Int} (h : Inv f g) : StP 190 20 [iI a, iI b, iI cc, iI dd, iI ee] f g := by
  obtain ⟨hH, hT, hF, hS, hI, hFe, hBy, hSw, hM, hW, h44⟩ := h
  obtain ⟨hcr, hpu, hbr, hst, hhu, hto, how, hbu, hpr, hnw, hdy, hje, hpg, hwd, hro, hlw⟩ := id hH
  have hl := hT.2.1.1
  refine k_feed (by decide) hl (fun hc => ⟨_, rfl, ?_⟩) (fun f1 hc h1 h2 h3 => ⟨_, rfl, ?_⟩)
  · exact c_feed (by decide) (by rw [← hT.1]; exact hl) (fun hk => ⟨rfl, ⟨⟨hcr, hpu, hbr, hst, hhu, hto, how, hbu, hpr, hnw, hdy, hje, hpg, hwd, hro, hlw⟩, hT, hF, hS, hI, hFe, hBy, hSw, hM, hW, h44⟩⟩) (fun f2 hk => absurd hk (by rw [← hT.1]; omega))
  · refine c_feed (by decide) (by show 0 ≤ f (fv 79 21) 0 ∧ f (fv 79 21) 0 ≤ 400; rw [← hT.1]; exact hl) (fun hk => absurd hk (by show ¬ 380 < f (fv 79 21) 0; rw [← hT.1]; omega)) (fun f2 hk k1 k2 k3 => ⟨by show some (iI (f (fv 79 21) 0 + 20)) = _; rw [hT.1], ?_⟩)
    have k1 : f2 (fv 79 21) 0 = f (fv 79 21) 0 + 20 := k1
    have k2 : ∀ q, 0 ≤ q → q < 20 → f2 92 (f (fv 79 21) 0 + q) = fdB a b cc dd ee q := k2
    have k3 : ∀ j, 0 ≤ j → j < f (fv 79 21) 0 → f2 92 j = f 92 j := k3
    rw [← hT.1] at k1 k2 k3
    exact ⟨⟨hcr, hpu, hbr, hst, hhu, hto, how, hbu, hpr, hnw, hdy, hje, hpg, hwd, hro, hlw⟩, (by show iTp (f1 (fv 39 1) 0) (f2 (fv 79 21) 0) (f1 40) (f2 92); rw [h1, k1]; refine ⟨rfl, ⟨by omega, fun k k0 k9 => ?_⟩, fun k k0 k9 => ?_⟩; (by_cases e : k < f (fv 39 1) 0; (rw [h3 k k0 e]; exact hT.2.1.2 k k0 e); (rw [show k = f (fv 39 1) 0 + (k - f (fv 39 1) 0) by omega, h2 _ (by omega) (by omega)]; exact fdB_r)); (by_cases e : k < f (fv 39 1) 0; (rw [h3 k k0 e, k3 k k0 e]; exact hT.2.2 k k0 e); (rw [show k = f (fv 39 1) 0 + (k - f (fv 39 1) 0) by omega, h2 _ (by omega) (by omega), k2 _ (by omega) (by omega)]))), hF, hS, hI, hFe, hBy, hSw, hM, hW, h44⟩

set_option maxRecDepth 100000 in
set_option maxHeartbeats 4000000 in
theorem st_end {n : Int} (h : Inv f g) : StP 191 21 [iI n] f g := by
  obtain ⟨hH, hT, hF, hS, hI, hFe, hBy, hSw, hM, hW, h44⟩ := h
  obtain ⟨hcr, hpu, hbr, hst, hhu, hto, how, hbu, hpr, hnw, hdy, hje, hpg, hwd, hro, hlw⟩ := id hH
  refine k_end (by decide) (fun hc => ⟨_, rfl, ?_⟩) (fun hc => ⟨_, rfl, ?_⟩)
  · refine c_end (by decide) (fun hk => ⟨rfl, ?_⟩) (fun hk => absurd (by show 0 ≤ n ∧ n ≤ f (fv 79 21) 0; rw [← hT.1]; exact hc) hk)
    have hl := hT.2.1.1
    exact ⟨⟨hcr, hpu, hbr, hst, hhu, hto, how, hbu, hpr, hnw, hdy, hje, hpg, hwd, hro, hlw⟩, ⟨rfl, ⟨(by show 0 ≤ n ∧ n ≤ 400; omega), fun k k0 (k1 : k < n) => hT.2.1.2 k k0 (by omega)⟩, fun k k0 (k1 : k < n) => hT.2.2 k k0 (by omega)⟩, hF, hS, hI, hFe, hBy, hSw, hM, hW, h44⟩
  · exact c_end (by decide) (fun hk => absurd (by rw [← hT.1] at hk; exact hk) hc) (fun hk => ⟨rfl, ⟨⟨hcr, hpu, hbr, hst, hhu, hto, how, hbu, hpr, hnw, hdy, hje, hpg, hwd, hro, hlw⟩, hT, hF, hS, hI, hFe, hBy, hSw, hM, hW, h44⟩⟩)

set_option maxRecDepth 100000 in
set_option maxHeartbeats 4000000 in
theorem st_fault {w : Int} (h : Inv f g) : StP 193 41 [iI w] f g := by
  obtain ⟨hH, hT, hF, hS, hI, hFe, hBy, hSw, hM, hW, h44⟩ := h
  obtain ⟨hcr, hpu, hbr, hst, hhu, hto, how, hbu, hpr, hnw, hdy, hje, hpg, hwd, hro, hlw⟩ := id hH
  refine k_fault (by decide) (fun hc => ⟨_, rfl, ?_⟩) (fun hc => ⟨_, rfl, ?_⟩) (fun hc => ⟨_, rfl, ?_⟩)
  · exact c_fault (by decide) (fun hk => ⟨by rw [hF.1], ⟨⟨hcr, hpu, hbr, hst, hhu, hto, how, hbu, hpr, hnw, hdy, hje, hpg, hwd, hro, hlw⟩, hT, hF, hS, hI, hFe, hBy, hSw, hM, hW, h44⟩⟩) (fun hk => absurd hk (by omega)) (fun hk => absurd hc hk.1)
  · exact c_fault (by decide) (fun hk => absurd hk (by omega)) (fun hk => ⟨by rw [hF.2], ⟨⟨hcr, hpu, hbr, hst, hhu, hto, how, hbu, hpr, hnw, hdy, hje, hpg, hwd, hro, hlw⟩, hT, hF, hS, hI, hFe, hBy, hSw, hM, hW, h44⟩⟩) (fun hk => absurd hc hk.2)
  · exact c_fault (by decide) (fun hk => absurd hk hc.1) (fun hk => absurd hk hc.2) (fun hk => ⟨rfl, ⟨⟨hcr, hpu, hbr, hst, hhu, hto, how, hbu, hpr, hnw, hdy, hje, hpg, hwd, hro, hlw⟩, hT, hF, hS, hI, hFe, hBy, hSw, hM, hW, h44⟩⟩)

set_option maxRecDepth 100000 in
set_option maxHeartbeats 4000000 in
theorem st_page (h : Inv f g) : StP 194 15 [] f g := by
  obtain ⟨hH, hT, hF, hS, hI, hFe, hBy, hSw, hM, hW, h44⟩ := h
  obtain ⟨hcr, hpu, hbr, hst, hhu, hto, how, hbu, hpr, hnw, hdy, hje, hpg, hwd, hro, hlw⟩ := id hH
  have hl := hT.2.1.1
  have hte : ∀ j, 0 ≤ j → j < f (fv 39 1) 0 → f 40 j = f 92 j := hT.2.2
  have hlR : 0 ≤ f (fv 79 21) 0 ∧ f (fv 79 21) 0 ≤ 400 := by rw [← hT.1]; exact hl
  refine k_page (by decide) hl (fun q hc h1 => ⟨_, rfl, ?_⟩) (fun f1 hc h1 h2 h3 => ⟨_, rfl, ?_⟩)
  · refine c_page (by decide) hlR (fun q2 hk k1 => ⟨?_, ⟨⟨hcr, hpu, hbr, hst, hhu, hto, how, hbu, hpr, hnw, hdy, hje, hpg, hwd, hro, hlw⟩, ⟨rfl, ⟨(by show (0 : Int) ≤ 0 ∧ (0 : Int) ≤ 400; decide), fun k k0 (k1 : k < 0) => absurd k1 (by omega)⟩, fun k k0 (k1 : k < 0) => absurd k1 (by omega)⟩, hF, hS, hI, hFe, hBy, hSw, hM, hW, h44⟩⟩) (fun f2 hk k1 => ?_)
    · have hk : 0 ≤ q2 ∧ q2 < f (fv 79 21) 0 ∧ (q2 = 60 ∨ sgI (f 92 q2) = -1) := hk
      have k1 : ∀ j, 0 ≤ j → j < q2 → ¬ j = 60 ∧ ¬ sgI (f 92 j) = -1 := k1
      rw [← hT.1] at hk
      have e : q2 = q := by
        rcases Int.lt_trichotomy q q2 with e | e | e
        · exfalso
          have a := k1 q hc.1 e
          rw [← hte q hc.1 hc.2.1] at a
          rcases hc.2.2 with b | b
          · by_cases e6 : q = 60
            · exact a.1 e6
            · exact (k1 60 (by omega) (by omega)).1 rfl
          · exact a.2 b
        · exact e.symm
        · exfalso
          have a := h1 q2 hk.1 e
          rw [hte q2 hk.1 hk.2.1] at a
          omega
      rw [e]
    · exfalso
      have hk : f (fv 79 21) 0 ≤ 60 := hk
      have k1 : ∀ j, 0 ≤ j → j < f (fv 79 21) 0 → ¬ sgI (f 92 j) = -1 := k1
      rw [← hT.1] at hk k1
      have a := k1 q hc.1 hc.2.1
      rw [← hte q hc.1 hc.2.1] at a
      have : sgI (f 40 q) = -1 ∨ 60 ≤ q := hc.2.2.symm
      omega
  · refine c_page (by decide) hlR (fun q2 hk k1 => ?_) (fun f2 hk k1 k2 k3 => ⟨by show some (iI (f (fv 79 21) 0)) = _; rw [hT.1], ?_⟩)
    · exfalso
      have hk : 0 ≤ q2 ∧ q2 < f (fv 79 21) 0 ∧ (q2 = 60 ∨ sgI (f 92 q2) = -1) := hk
      rw [← hT.1] at hk
      have a := h1 q2 hk.1 hk.2.1
      rw [hte q2 hk.1 hk.2.1] at a
      omega
    · have k2 : f2 (fv 79 21) 0 = 0 ∧ f2 (fv 79 13) 0 = f (fv 79 21) 0 := k2
      have k3 : ∀ j, 0 ≤ j → j < f (fv 79 21) 0 → f2 88 j = sgI (f 92 j) := k3
      rw [← hT.1] at k2 k3
      exact ⟨⟨hcr, hpu, hbr, hst, hhu, hto, how, hbu, hpr, hnw, hdy, hje, (by show iPg (f1 (fv 10 1) 0) (f2 (fv 79 13) 0) (f1 11) (f2 88); rw [h3.1, k2.2]; exact ⟨rfl, ⟨hl.1, hc⟩, fun i i0 i1 => by rw [h2 i i0 i1, k3 i i0 i1, hte i i0 i1]; exact ⟨rfl, sgI_p (by rw [← hte i i0 i1]; exact h1 i i0 i1)⟩⟩), hwd, hro, hlw⟩, (by show iTp (f1 (fv 39 1) 0) (f2 (fv 79 21) 0) (f 40) (f 92); rw [h3.2.1, k2.1]; exact ⟨rfl, ⟨(by decide), fun k k0 (k1 : k < 0) => absurd k1 (by omega)⟩, fun k k0 (k1 : k < 0) => absurd k1 (by omega)⟩), hF, hS, hI, ⟨fun h => absurd h3.2.2.1 h, hFe.2⟩, fun h => absurd h (by show ¬ 0 ≤ f1 (fv 72 0) 0; rw [h3.2.2.2.1]; decide), fun h => absurd h3.2.2.2.2 h, hM, hW, h44⟩

set_option maxRecDepth 100000 in
set_option maxHeartbeats 4000000 in
theorem st_clear (h : Inv f g) : StP 196 17 [] f g := by
  obtain ⟨hH, hT, hF, hS, hI, hFe, hBy, hSw, hM, hW, h44⟩ := h
  obtain ⟨hcr, hpu, hbr, hst, hhu, hto, how, hbu, hpr, hnw, hdy, hje, hpg, hwd, hro, hlw⟩ := id hH
  refine k_clear (by decide) ⟨_, rfl, ?_⟩
  refine c_clear (by decide) ⟨by show some (iI (f (fv 79 17) 0)) = _; rw [hwd.1], ?_⟩
  exact ⟨⟨hcr, hpu, hbr, hst, hhu, hto, how, hbu, hpr, hnw, hdy, hje, hpg, ⟨rfl, (by show (0 : Int) ≤ 0 ∧ (0 : Int) ≤ 20; decide), fun q q0 (q1 : q < 0) => absurd q1 (by omega)⟩, hro, hlw⟩, hT, hF, hS, hI, ⟨fun h => absurd rfl h, hFe.2⟩, fun h => absurd h (by show ¬ (0 : Int) ≤ -1; decide), fun h => absurd rfl h, hM, hW, h44⟩

set_option maxRecDepth 100000 in
set_option maxHeartbeats 4000000 in
theorem st_word (h : Inv f g) : StP 195 16 [] f g := by
  obtain ⟨hH, hT, hF, hS, hI, hFe, hBy, hSw, hM, hW, h44⟩ := h
  obtain ⟨hcr, hpu, hbr, hst, hhu, hto, how, hbu, hpr, hnw, hdy, hje, hpg, hwd, hro, hlw⟩ := id hH
  have hl := hT.2.1.1
  have hte : ∀ j, 0 ≤ j → j < f (fv 39 1) 0 → f 40 j = f 92 j := hT.2.2
  have hlR : 0 ≤ f (fv 79 21) 0 ∧ f (fv 79 21) 0 ≤ 400 := by rw [← hT.1]; exact hl
  have hwR : 0 ≤ f (fv 79 17) 0 ∧ f (fv 79 17) 0 ≤ 20 := by rw [← hwd.1]; exact hwd.2.1
  refine k_word (by decide) hl hwd.2.1 (fun hc => ⟨_, rfl, ?_⟩) (fun f1 hc h1 h2 h3 h4 => ⟨_, rfl, ?_⟩)
  · refine c_word (by decide) hlR hwR (fun hk => ⟨rfl, ⟨⟨hcr, hpu, hbr, hst, hhu, hto, how, hbu, hpr, hnw, hdy, hje, hpg, hwd, hro, hlw⟩, ⟨rfl, ⟨(by show (0 : Int) ≤ 0 ∧ (0 : Int) ≤ 400; decide), fun k k0 (k1 : k < 0) => absurd k1 (by omega)⟩, fun k k0 (k1 : k < 0) => absurd k1 (by omega)⟩, hF, hS, hI, ⟨fun h => absurd rfl h, hFe.2⟩, fun h => absurd h (by show ¬ (0 : Int) ≤ -1; decide), fun h => absurd rfl h, hM, hW, h44⟩⟩) (fun f2 hk k1 => absurd ?_ hc)
    have hk : 1 ≤ f (fv 79 21) 0 ∧ f (fv 79 21) 0 ≤ 12 ∧ ¬ f (fv 79 17) 0 = 20 := hk
    have k1 : ∀ j, 0 ≤ j → j < f (fv 79 21) 0 → 97 ≤ f 92 j ∧ f 92 j ≤ 122 := k1
    rw [← hT.1] at hk k1
    rw [← hwd.1] at hk hwR
    exact ⟨hk.1, hk.2.1, by omega, fun j j0 j1 => by rw [hte j j0 j1]; exact k1 j j0 j1⟩
  · refine c_word (by decide) hlR hwR (fun hk => absurd ?_ hk) (fun f2 hk k1 k2 k3 k4 => ⟨by show some (iI (f (fv 79 17) 0 + 1 - 1)) = _; rw [hwd.1], ?_⟩)
    · show 1 ≤ f (fv 79 21) 0 ∧ f (fv 79 21) 0 ≤ 12 ∧ ¬ f (fv 79 17) 0 = 20 ∧ ∀ j, 0 ≤ j → j < f (fv 79 21) 0 → 97 ≤ f 92 j ∧ f 92 j ≤ 122
      rw [← hT.1, ← hwd.1]
      exact ⟨hc.1, hc.2.1, by omega, fun j j0 j1 => by rw [← hte j j0 j1]; exact h1 j j0 j1⟩
    · have k2 : f2 (fv 79 21) 0 = 0 ∧ f2 (fv 79 17) 0 = f (fv 79 17) 0 + 1 := k2
      have k3 : ∀ k, f2 90 k = (if k = f (fv 79 17) 0 then f (fv 79 21) 0 else f 90 k) := k3
      have k4 : (∀ j, 0 ≤ j → j < f (fv 79 21) 0 → f2 91 (12 * f (fv 79 17) 0 + j) = f 92 j - 97) ∧ ∀ k, k < 12 * f (fv 79 17) 0 → f2 91 k = f 91 k := k4
      rw [← hT.1, ← hwd.1] at k3 k4
      rw [← hwd.1] at k2
      have hw9 : iWd (f1 (fv 12 2) 0) (f2 (fv 79 17) 0) (f1 14) (f2 90) (f1 13) (f2 91) := by
        rw [h2.1, k2.2]
        refine ⟨rfl, by have := hwd.2.1; omega, fun q q0 q1 => ?_⟩
        rw [h3 q, k3 q]
        by_cases e : q = f (fv 12 2) 0
        · rw [if_pos e, if_pos e, e]
          refine ⟨rfl, hc.1, hc.2.1, fun j j0 j1 => ?_⟩
          rw [h4.1 j j0 j1, k4.1 j j0 j1, hte j j0 j1]
          have := h1 j j0 j1
          rw [hte j j0 j1] at this
          omega
        · rw [if_neg e, if_neg e]
          have := hwd.2.2 q q0 (by omega)
          refine ⟨this.1, this.2.1, this.2.2.1, fun j j0 j1 => ?_⟩
          rw [h4.2 _ (by omega), k4.2 _ (by omega)]
          exact this.2.2.2 j j0 j1
      exact ⟨⟨hcr, hpu, hbr, hst, hhu, hto, how, hbu, hpr, hnw, hdy, hje, hpg, hw9, hro, hlw⟩, (by show iTp (f1 (fv 39 1) 0) (f2 (fv 79 21) 0) (f 40) (f 92); rw [h2.2.1, k2.1]; exact ⟨rfl, ⟨(by decide), fun k k0 (k1 : k < 0) => absurd k1 (by omega)⟩, fun k k0 (k1 : k < 0) => absurd k1 (by omega)⟩), hF, hS, hI, ⟨fun h => absurd h2.2.2.1 h, hFe.2⟩, fun h => absurd h (by show ¬ 0 ≤ f1 (fv 72 0) 0; rw [h2.2.2.2.1]; decide), fun h => absurd h2.2.2.2.2 h, hM, hW, h44⟩

end D2
