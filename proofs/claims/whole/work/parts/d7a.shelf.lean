theorem sh_keep {n n1 m1 rl rl1 gp se : Int} {A B D E G R A1 B1 D1 E1 G1 R1 pu pr now : Int → Int} (hn : 0 ≤ n ∧ n ≤ 6) (hS : ∀ r, 0 ≤ r → r < n → (∀ a, 0 ≤ a → a < 8 → A (8 * r + a) = R (40 * r + a) ∧ 0 ≤ A (8 * r + a) ∧ A (8 * r + a) ≤ 99999) ∧ (∀ s, 0 ≤ s → s < 29 → B (29 * r + s) = R (40 * r + (8 + s))) ∧ (D r = R (40 * r + 37) ∧ E r = R (40 * r + 38) ∧ G r = R (40 * r + 39)) ∧ 0 ≤ D r ∧ (r + 1 < n → D r ≤ D (r + 1)) ∧ (r + 1 = n → D r ≤ rl)) (hpu : iPu pu now) (hpr : iPr pr now) (hnw : iNw rl gp se now) (hY2 : rl ≤ rl1)
 (h1 : (n = 6 ∧ n1 = 6 ∧ (∀ q, 0 ≤ q → q < 40 → A1 q = A (8 + q)) ∧ (∀ a, 0 ≤ a → a < 8 → A1 (40 + a) = pu a) ∧ (∀ q, 0 ≤ q → q < 145 → B1 q = B (29 + q)) ∧ (∀ s, 0 ≤ s → s < 29 → B1 (145 + s) = pr s) ∧ (∀ q, 0 ≤ q → q < 5 → D1 q = D (1 + q) ∧ E1 q = E (1 + q) ∧ G1 q = G (1 + q)) ∧ D1 5 = rl ∧ E1 5 = gp ∧ G1 5 = se) ∨ (n < 6 ∧ n1 = n + 1 ∧ (∀ q, 0 ≤ q → q < 8 * n → A1 q = A q) ∧ (∀ a, 0 ≤ a → a < 8 → A1 (8 * n + a) = pu a) ∧ (∀ q, 0 ≤ q → q < 29 * n → B1 q = B q) ∧ (∀ s, 0 ≤ s → s < 29 → B1 (29 * n + s) = pr s) ∧ (∀ q, 0 ≤ q → q < n → D1 q = D q ∧ E1 q = E q ∧ G1 q = G q) ∧ D1 n = rl ∧ E1 n = gp ∧ G1 n = se))
 (k1 : (n = 6 ∧ m1 = 6 ∧ (∀ j, 0 ≤ j → j < 200 → R1 j = R (j + 40)) ∧ ∀ j, 0 ≤ j → j < 40 → R1 (200 + j) = now j) ∨ (¬ n = 6 ∧ m1 = n + 1 ∧ (∀ j, 0 ≤ j → j < 40 * n → R1 j = R j) ∧ ∀ j, 0 ≤ j → j < 40 → R1 (40 * n + j) = now j)) : iSh n1 m1 rl1 A1 B1 D1 E1 G1 R1 := by
  have hr2 := hnw.2.2.2
  rcases h1 with ⟨a0, a1, a2, a3, a4, a5, a6, a7, a8, a9⟩ | ⟨a0, a1, a2, a3, a4, a5, a6, a7, a8, a9⟩
  · rcases k1 with ⟨b0, b1, b2, b3⟩ | ⟨b0, -⟩
    · rw [a1, b1]
      refine ⟨rfl, by decide, fun r r0 r1 => ?_⟩
      by_cases e : r = 5
      · rw [e]
        refine ⟨fun a x0 x1 => ?_, fun s x0 x1 => ?_, ⟨?_, ?_, ?_⟩, ?_, fun h => absurd h (by decide), fun _ => ?_⟩
        · rw [show 8 * (5 : Int) + a = 40 + a by omega, show 40 * (5 : Int) + a = 200 + a by omega, a3 a x0 x1, b3 a x0 (by omega)]; exact hpu a x0 x1
        · rw [show 29 * (5 : Int) + s = 145 + s by omega, show 40 * (5 : Int) + (8 + s) = 200 + (8 + s) by omega, a5 s x0 x1, b3 (8 + s) (by omega) (by omega)]; exact hpr s x0 x1
        · rw [a7, show 40 * (5 : Int) + 37 = 200 + 37 by omega, b3 37 (by decide) (by decide)]; exact hnw.1
        · rw [a8, show 40 * (5 : Int) + 38 = 200 + 38 by omega, b3 38 (by decide) (by decide)]; exact hnw.2.1
        · rw [a9, show 40 * (5 : Int) + 39 = 200 + 39 by omega, b3 39 (by decide) (by decide)]; exact hnw.2.2.1
        · rw [a7]; exact hr2.1
        · rw [a7]; exact hY2
      · obtain ⟨c1, c2, c3, c4, c5, c6⟩ := hS (r + 1) (by omega) (by omega)
        obtain ⟨d1, d2, d3⟩ := a6 r r0 (by omega)
        rw [show 1 + r = r + 1 by omega] at d1 d2 d3
        refine ⟨fun a x0 x1 => ?_, fun s x0 x1 => ?_, ⟨?_, ?_, ?_⟩, ?_, fun h => ?_, fun h => ?_⟩
        · rw [a2 _ (by omega) (by omega), b2 _ (by omega) (by omega), show 8 + (8 * r + a) = 8 * (r + 1) + a by omega, show 40 * r + a + 40 = 40 * (r + 1) + a by omega]; exact c1 a x0 x1
        · rw [a4 _ (by omega) (by omega), b2 _ (by omega) (by omega), show 29 + (29 * r + s) = 29 * (r + 1) + s by omega, show 40 * r + (8 + s) + 40 = 40 * (r + 1) + (8 + s) by omega]; exact c2 s x0 x1
        · rw [d1, b2 _ (by omega) (by omega), show 40 * r + 37 + 40 = 40 * (r + 1) + 37 by omega]; exact c3.1
        · rw [d2, b2 _ (by omega) (by omega), show 40 * r + 38 + 40 = 40 * (r + 1) + 38 by omega]; exact c3.2.1
        · rw [d3, b2 _ (by omega) (by omega), show 40 * r + 39 + 40 = 40 * (r + 1) + 39 by omega]; exact c3.2.2
        · rw [d1]; exact c4
        · by_cases e2 : r + 1 = 5
          · rw [d1, e2, a7, ← e2]; exact c6 (by omega)
          · obtain ⟨g1, -, -⟩ := a6 (r + 1) (by omega) (by omega)
            rw [show 1 + (r + 1) = r + 1 + 1 by omega] at g1
            rw [d1, g1]; exact c5 (by omega)
        · omega
    · omega
  · rcases k1 with ⟨b0, -⟩ | ⟨b0, b1, b2, b3⟩
    · omega
    · rw [a1, b1]
      refine ⟨rfl, by omega, fun r r0 r1 => ?_⟩
      by_cases e : r = n
      · rw [e]
        refine ⟨fun a x0 x1 => ?_, fun s x0 x1 => ?_, ⟨?_, ?_, ?_⟩, ?_, fun h => by omega, fun _ => ?_⟩
        · rw [a3 a x0 x1, b3 a x0 (by omega)]; exact hpu a x0 x1
        · rw [a5 s x0 x1, b3 (8 + s) (by omega) (by omega)]; exact hpr s x0 x1
        · rw [a7, b3 37 (by decide) (by decide)]; exact hnw.1
        · rw [a8, b3 38 (by decide) (by decide)]; exact hnw.2.1
        · rw [a9, b3 39 (by decide) (by decide)]; exact hnw.2.2.1
        · rw [a7]; exact hr2.1
        · rw [a7]; exact hY2
      · obtain ⟨c1, c2, c3, c4, c5, c6⟩ := hS r r0 (by omega)
        obtain ⟨d1, d2, d3⟩ := a6 r r0 (by omega)
        refine ⟨fun a x0 x1 => ?_, fun s x0 x1 => ?_, ⟨?_, ?_, ?_⟩, ?_, fun h => ?_, fun h => ?_⟩
        · rw [a2 _ (by omega) (by omega), b2 _ (by omega) (by omega)]; exact c1 a x0 x1
        · rw [a4 _ (by omega) (by omega), b2 _ (by omega) (by omega)]; exact c2 s x0 x1
        · rw [d1, b2 _ (by omega) (by omega)]; exact c3.1
        · rw [d2, b2 _ (by omega) (by omega)]; exact c3.2.1
        · rw [d3, b2 _ (by omega) (by omega)]; exact c3.2.2
        · rw [d1]; exact c4
        · by_cases e2 : r + 1 = n
          · rw [d1, e2, a7]; exact c6 e2
          · obtain ⟨g1, -, -⟩ := a6 (r + 1) (by omega) (by omega)
            rw [d1, g1]; exact c5 (by omega)
        · omega
