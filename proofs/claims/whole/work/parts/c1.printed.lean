/-! ===== a printing, alike where it counts ===== -/
section PK
variable {ab : Int → Bool} {ow ow' : Int → Int} {day : Int} {w : Lw} {pg pg' : Int → Int} {n jl i : Int}
/-- two printings as far as they count -/
def ptR (p q : PT) : Prop := (∀ k, 0 ≤ k → k < 40 → p.1 k = q.1 k) ∧ (∀ k, 0 ≤ k → k < 5 * p.1 37 → p.2.1 k = q.2.1 k) ∧ p.2.2 = q.2.2 ∧ 0 ≤ p.1 37 ∧ p.1 37 ≤ 200
theorem prD_cg {now now' : Int → Int} (h : ∀ k, 0 ≤ k → k < 40 → now k = now' k) : ∀ k, 0 ≤ k → k < 40 → prD jl now k = prD jl now' k := by
  intro k k0 k1
  unfold prD
  split
  · by_cases e : k = 39
    · rw [e, up_s, up_s, h 39 (by decide) (by decide)]
    · rw [up_n e, up_n e, h k k0 k1]
  · exact h k k0 k1
theorem prD_37 {now : Int → Int} : prD jl now 37 = now 37 := by
  unfold prD
  split
  · rw [up_n (by decide)]
  · rfl
theorem prD_a {now : Int → Int} {k : Int} (h : k < 39) : prD jl now k = now k := by
  unfold prD
  split
  · rw [up_n (by omega)]
  · rfl
theorem prC_ow {now : Int → Int} {st lo : Int} (h : ∀ s, 0 ≤ s → s < 29 → ow s = ow' s) : prC ow jl st now lo = prC ow' jl st now lo := by
  unfold prC
  rw [show lsI ow lo = lsI ow' lo from lsF_cg 29 0 (fun k k0 k1 => h k k0 (by omega))]
theorem prS_cg {p q : PT} (hab : ∀ s, ab s = true → 0 ≤ s ∧ s < 29) (ho : ∀ s, ab s = true → 0 ≤ ow s ∧ ow s < 8) (h : ∀ s, 0 ≤ s → s < 29 → ow s = ow' s) (hp : ∀ k, 0 ≤ k → k < n → pg k = pg' k) (hi : 0 ≤ i ∧ i < n) (H : ptR p q) : ptR (prS ab ow day w pg n jl i p) (prS ab ow' day w pg' n jl i q) := by
  obtain ⟨h1, h2, h3, h4, h5⟩ := H
  have ec : prC ow jl (pg i) p.1 p.2.2.1 = prC ow' jl (pg' i) q.1 q.2.2.1 := by rw [prC_cg h1, prC_ow h, hp i hi.1 hi.2, h3]
  by_cases e : pg i = 29
  · rw [prS_b e, prS_b (by rw [← hp i hi.1 hi.2]; exact e)]
    exact ⟨h1, h2, h3, h4, h5⟩
  · have e' : ¬ pg' i = 29 := by rw [← hp i hi.1 hi.2]; exact e
    have hD := prD_cg (jl := jl) h1
    cases ea : ab (prC ow jl (pg i) p.1 p.2.2.1) with
    | false =>
      rw [prS_g e rfl ea, prS_g e' ec ea]
      refine ⟨fun k k0 k1 => ?_, ?_, h3, ?_, ?_⟩
      · show prG (prD jl p.1) k = prG (prD jl q.1) k
        unfold prG
        by_cases e2 : k = 38
        · rw [e2, up_s, up_s, hD 38 (by decide) (by decide)]
        · rw [up_n e2, up_n e2, hD k k0 k1]
      · intro k k0 k1
        have k1 : k < 5 * prG (prD jl p.1) 37 := k1
        rw [show prG (prD jl p.1) 37 = prD jl p.1 37 from up_n (by decide), prD_37] at k1
        exact h2 k k0 k1
      · show 0 ≤ prG (prD jl p.1) 37
        rw [show prG (prD jl p.1) 37 = prD jl p.1 37 from up_n (by decide), prD_37]; exact h4
      · show prG (prD jl p.1) 37 ≤ 200
        rw [show prG (prD jl p.1) 37 = prD jl p.1 37 from up_n (by decide), prD_37]; exact h5
    | true =>
      have hs := hab _ ea
      have hos := ho _ ea
      rw [prS_p e rfl ea, prS_p e' ec ea]
      have epy : pyI ab ow day w (up pg i (prC ow jl (pg i) p.1 p.2.2.1)) n i = pyI ab ow' day w (up pg' i (prC ow jl (pg i) p.1 p.2.2.1)) n i := by
        rw [pyI_ab (ab := ab) (ab' := ab) (ow := ow) (ow' := ow') (fun k _ _ => rfl) (by rw [up_s]; exact h _ hs.1 hs.2) hi.1 hi.2]
        exact pyI_cg (up_cg hp) hi.1 hi.2
      have eow := h _ hs.1 hs.2
      rw [← epy]
      generalize hP : pyI ab ow day w (up pg i (prC ow jl (pg i) p.1 p.2.2.1)) n i = P
      generalize hS : prC ow jl (pg i) p.1 p.2.2.1 = c at *
      have eN : bkN ow (prD jl q.1) c P = bkN ow' (prD jl q.1) c P := by unfold bkN; rw [eow]
      have eR : bkR ow (prD jl q.1) q.2.1 day c i P = bkR ow' (prD jl q.1) q.2.1 day c i P := by unfold bkR; rw [eow]
      have q37 : prD jl p.1 37 = p.1 37 := prD_37
      have n37 : bkN ow (prD jl p.1) c P 37 = if p.1 37 = 200 then 200 else p.1 37 + 1 := by unfold bkN; rw [up_s, q37]
      refine ⟨fun k k0 k1 => ?_, fun k k0 k1 => ?_, ?_, ?_, ?_⟩
      · show bkN ow (prD jl p.1) c P k = bkN ow' (prD jl q.1) c P k
        rw [← eN]
        exact bkN_cg hD hs hos k k0 k1
      · show bkR ow (prD jl p.1) p.2.1 day c i P k = bkR ow' (prD jl q.1) q.2.1 day c i P k
        have k1 : k < 5 * bkN ow (prD jl p.1) c P 37 := k1
        rw [n37] at k1
        rw [← eR, ← bkR_cg (roll := q.2.1) hD hos]
        unfold bkR
        rw [q37]
        by_cases e2 : p.1 37 = 200
        · rw [if_pos e2] at k1 ⊢
          rw [if_pos e2]
          exact h2 k k0 (by omega)
        · rw [if_neg e2] at k1 ⊢
          rw [if_neg e2]
          by_cases c4 : k = 5 * p.1 37 + 4
          · rw [c4, up_s, up_s]
          · rw [up_n c4, up_n c4]
            by_cases c3 : k = 5 * p.1 37 + 3
            · rw [c3, up_s, up_s]
            · rw [up_n c3, up_n c3]
              by_cases c2 : k = 5 * p.1 37 + 2
              · rw [c2, up_s, up_s]
              · rw [up_n c2, up_n c2]
                by_cases c1 : k = 5 * p.1 37 + 1
                · rw [c1, up_s, up_s]
                · rw [up_n c1, up_n c1]
                  by_cases c0 : k = 5 * p.1 37
                  · rw [c0, up_s, up_s]
                  · rw [up_n c0, up_n c0]
                    exact h2 k k0 (by omega)
      · show (ow c, p.2.2.2 + 1) = (ow' c, q.2.2.2 + 1)
        rw [eow, h3]
      · show 0 ≤ bkN ow (prD jl p.1) c P 37
        rw [n37]; split <;> omega
      · show bkN ow (prD jl p.1) c P 37 ≤ 200
        rw [n37]; split <;> omega
theorem prI_cg {p q : PT} (hab : ∀ s, ab s = true → 0 ≤ s ∧ s < 29) (ho : ∀ s, ab s = true → 0 ≤ ow s ∧ ow s < 8) (h : ∀ s, 0 ≤ s → s < 29 → ow s = ow' s) (hp : ∀ k, 0 ≤ k → k < n → pg k = pg' k) (H : ptR p q) : ∀ m : Nat, (m : Int) ≤ n → ptR (prN ab ow day w pg n jl p m) (prN ab ow' day w pg' n jl q m)
  | 0, _ => H
  | m + 1, hm => prS_cg hab ho h hp ⟨by omega, by omega⟩ (prI_cg hab ho h hp H m (by omega))
/-- purses and lines stay in their bounds -/
def ptB (r0 : Int) (p : PT) : Prop := (∀ k, 0 ≤ k → k < 8 → 0 ≤ p.1 k ∧ p.1 k ≤ 99999) ∧ r0 ≤ p.1 37 ∧ p.1 37 ≤ 200
theorem pur_r {x y : Int} (hx : 0 ≤ x ∧ x ≤ 99999) (hy : 0 ≤ y) : 0 ≤ pur x y ∧ pur x y ≤ 99999 := by unfold pur; split <;> omega
theorem prS_r {p : PT} {r0 : Int} (hab : ∀ s, ab s = true → 0 ≤ s ∧ s < 29) (ho : ∀ s, ab s = true → 0 ≤ ow s ∧ ow s < 8) (H : ptB r0 p) : ptB r0 (prS ab ow day w pg n jl i p) := by
  obtain ⟨h1, h2, h3⟩ := H
  by_cases e : pg i = 29
  · rw [prS_b e]; exact ⟨h1, h2, h3⟩
  · cases ea : ab (prC ow jl (pg i) p.1 p.2.2.1) with
    | false =>
      rw [prS_g e rfl ea]
      refine ⟨fun k k0 k1 => ?_, ?_, ?_⟩
      · show 0 ≤ prG (prD jl p.1) k ∧ prG (prD jl p.1) k ≤ 99999
        rw [show prG (prD jl p.1) k = prD jl p.1 k from up_n (by omega), prD_a (by omega)]; exact h1 k k0 k1
      · show r0 ≤ prG (prD jl p.1) 37
        rw [show prG (prD jl p.1) 37 = prD jl p.1 37 from up_n (by decide), prD_37]; exact h2
      · show prG (prD jl p.1) 37 ≤ 200
        rw [show prG (prD jl p.1) 37 = prD jl p.1 37 from up_n (by decide), prD_37]; exact h3
    | true =>
      have hs := hab _ ea
      have hos := ho _ ea
      rw [prS_p e rfl ea]
      have hp := (pyI_r (ab := ab) (ow := ow) (row := up pg i (prC ow jl (pg i) p.1 p.2.2.1)) (day := day) (n := n) (i := i) (w := w)).1
      generalize pyI ab ow day w (up pg i (prC ow jl (pg i) p.1 p.2.2.1)) n i = P at *
      generalize prC ow jl (pg i) p.1 p.2.2.1 = c at *
      have n37 : bkN ow (prD jl p.1) c P 37 = if p.1 37 = 200 then 200 else p.1 37 + 1 := by unfold bkN; rw [up_s, prD_37]
      refine ⟨fun k k0 k1 => ?_, ?_, ?_⟩
      · show 0 ≤ bkN ow (prD jl p.1) c P k ∧ bkN ow (prD jl p.1) c P k ≤ 99999
        unfold bkN
        rw [up_n (by omega), up_n (by omega)]
        by_cases e2 : k = ow c
        · rw [e2, up_s, prD_a (by omega)]
          exact pur_r (h1 _ hos.1 hos.2) hp
        · rw [up_n e2, prD_a (by omega)]; exact h1 k k0 k1
      · show r0 ≤ bkN ow (prD jl p.1) c P 37
        rw [n37]; split <;> omega
      · show bkN ow (prD jl p.1) c P 37 ≤ 200
        rw [n37]; split <;> omega
theorem prI_r {p : PT} {r0 : Int} (hab : ∀ s, ab s = true → 0 ≤ s ∧ s < 29) (ho : ∀ s, ab s = true → 0 ≤ ow s ∧ ow s < 8) (H : ptB r0 p) : ∀ m : Nat, ptB r0 (prN ab ow day w pg n jl p m)
  | 0 => H
  | m + 1 => prS_r hab ho (prI_r hab ho H m)
/-- the roll's lines that were there stay -/
theorem prS_o {p : PT} {r0 : Int} {k : Int} (hk : k < 5 * r0) (hr : r0 ≤ p.1 37) : (prS ab ow day w pg n jl i p).2.1 k = p.2.1 k := by
  by_cases e : pg i = 29
  · rw [prS_b e]
  · cases ea : ab (prC ow jl (pg i) p.1 p.2.2.1) with
    | false => rw [prS_g e rfl ea]
    | true =>
      rw [prS_p e rfl ea]
      show bkR ow (prD jl p.1) p.2.1 day _ i _ k = _
      unfold bkR
      rw [prD_37]
      split
      · rfl
      · rw [up_n (by omega), up_n (by omega), up_n (by omega), up_n (by omega), up_n (by omega)]
theorem prI_o {p : PT} {r0 : Int} {k : Int} (hab : ∀ s, ab s = true → 0 ≤ s ∧ s < 29) (ho : ∀ s, ab s = true → 0 ≤ ow s ∧ ow s < 8) (H : ptB r0 p) (hk : k < 5 * r0) : ∀ m : Nat, (prN ab ow day w pg n jl p m).2.1 k = p.2.1 k
  | 0 => rfl
  | m + 1 => by
    rw [prN, prS_o hk (prI_r hab ho H m).2.1, prI_o hab ho H hk m]
end PK
