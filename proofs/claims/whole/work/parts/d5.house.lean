/-! ===== houses that are alike ===== -/
section D5
variable {C R D E : iF}
def cAl (C D : iF) : Prop := (D (fv 1 0) 0 = C (fv 1 0) 0 ∧ D (fv 1 13) 0 = C (fv 1 13) 0 ∧ D (fv 1 14) 0 = C (fv 1 14) 0 ∧ D (fv 1 15) 0 = C (fv 1 15) 0 ∧ D (fv 1 16) 0 = C (fv 1 16) 0 ∧ D (fv 1 17) 0 = C (fv 1 17) 0) ∧ (∀ q, 0 ≤ q → q < 8 → D 2 q = C 2 q ∧ D 3 q = C 3 q ∧ D 4 q = C 4 q ∧ D 5 q = C 5 q ∧ D 6 q = C 6 q) ∧ (∀ q, 0 ≤ q → q < 29 → D 7 q = C 7 q ∧ D 8 q = C 8 q ∧ D 9 q = C 9 q) ∧ D (fv 10 1) 0 = C (fv 10 1) 0 ∧ (∀ q, 0 ≤ q → q < C (fv 10 1) 0 → D 11 q = C 11 q) ∧ (∀ q, 0 ≤ q → q < 240 → D 13 q = C 13 q) ∧ (∀ q, 0 ≤ q → q < 20 → D 14 q = C 14 q) ∧ D (fv 12 2) 0 = C (fv 12 2) 0 ∧ (∀ q, 0 ≤ q → q < 1000 → D 19 q = C 19 q)
def cLw (C D : iF) : Prop := (∀ q, 0 ≤ q → q < 400 → D 16 q = C 16 q) ∧ (∀ q, 0 ≤ q → q < 17 → D 17 q = C 17 q) ∧ (∀ q, 0 ≤ q → q < 16 → D 18 q = C 18 q) ∧ D (fv 15 4) 0 = C (fv 15 4) 0 ∧ D (fv 15 5) 0 = C (fv 15 5) 0
def rAl (R E : iF) : Prop := (E (fv 79 4) 0 = R (fv 79 4) 0 ∧ E (fv 79 11) 0 = R (fv 79 11) 0 ∧ E (fv 79 12) 0 = R (fv 79 12) 0 ∧ E (fv 79 13) 0 = R (fv 79 13) 0 ∧ E (fv 79 17) 0 = R (fv 79 17) 0) ∧ (∀ q, 0 ≤ q → q < 40 → E 80 q = R 80 q) ∧ (∀ q, 0 ≤ q → q < 8 → E 82 q = R 82 q ∧ E 83 q = R 83 q ∧ E 84 q = R 84 q ∧ E 85 q = R 85 q) ∧ (∀ q, 0 ≤ q → q < 29 → E 86 q = R 86 q ∧ E 87 q = R 87 q) ∧ (∀ q, 0 ≤ q → q < 60 → E 88 q = R 88 q) ∧ (∀ q, 0 ≤ q → q < 20 → E 90 q = R 90 q) ∧ (∀ q, 0 ≤ q → q < 240 → E 91 q = R 91 q) ∧ (∀ q, 0 ≤ q → q < 1000 → E 103 q = R 103 q)
def rLw (R E : iF) : Prop := E (fv 79 27) 0 = R (fv 79 27) 0 ∧ (∀ q, 0 ≤ q → q < 16 → E 94 q = R 94 q ∧ E 95 q = R 95 q ∧ E 96 q = R 96 q) ∧ ∀ q, 0 ≤ q → q < 400 → E 97 q = R 97 q ∧ E 98 q = R 98 q
theorem lw_c (h : lC C) (e : cLw C D) : lC D ∧ lwC D = lwC C := by
  obtain ⟨h1, h2⟩ := h
  obtain ⟨e1, e2, e3, e4, e5⟩ := e
  have hl : ∀ l, 0 ≤ l → l < C (fv 15 4) 0 → D 17 l = C 17 l ∧ D 18 l = C 18 l ∧ D 17 (l + 1) = C 17 (l + 1) ∧ lnC D l = lnC C l := by
    intro l l0 l1
    have q := h2 l l0 l1
    have a1 := e2 l l0 (by omega)
    have a2 := e3 l l0 (by omega)
    have a3 := e2 (l + 1) (by omega) (by omega)
    refine ⟨a1, a2, a3, ?_⟩
    show (sl (D 16) (D 17 l) (D 18 l), sl (D 16) (D 18 l) (D 17 (l + 1))) = (sl (C 16) (C 17 l) (C 18 l), sl (C 16) (C 18 l) (C 17 (l + 1)))
    rw [a1, a2, a3, sl_congr (c := D 16) (c' := C 16) (fun k k0 k1 => e1 k (by omega) (by omega)), sl_congr (c := D 16) (c' := C 16) (a := C 18 l) (fun k k0 k1 => e1 k (by omega) (by omega))]
  refine ⟨⟨by rw [e4]; exact h1, fun l l0 l1 => ?_⟩, ?_⟩
  · rw [e4] at l1
    obtain ⟨a1, a2, a3, a4⟩ := hl l l0 l1
    rw [a1, a2, a3, a4]; exact h2 l l0 l1
  · unfold lwC
    rw [e4]
    exact mkl_congr _ _ (fun k k0 k1 => (hl k k0 (by omega)).2.2.2)
theorem lw_r (h : lB R) (e : rLw R E) : lB E ∧ lwR E = lwR R := by
  obtain ⟨h1, h2, h3⟩ := h
  obtain ⟨e1, e2, e3⟩ := e
  have hl : ∀ l, 0 ≤ l → l < R (fv 79 27) 0 → E 95 l = R 95 l ∧ E 94 l = R 94 l ∧ E 96 l = R 96 l ∧ lnR E l = lnR R l := by
    intro l l0 l1
    have q := h2 l l0 l1
    have a := e2 l l0 (by omega)
    refine ⟨a.2.1, a.1, a.2.2, ?_⟩
    show (sl (rcd E) (E 95 l) (E 94 l), sl (rcd E) (E 94 l) (E 96 l)) = (sl (rcd R) (R 95 l) (R 94 l), sl (rcd R) (R 94 l) (R 96 l))
    have hr : ∀ k, 0 ≤ k → k < 400 → rcd E k = rcd R k := fun k k0 k1 => by
      show enc (E 97 k) (E 98 k) = enc (R 97 k) (R 98 k)
      rw [(e3 k k0 k1).1, (e3 k k0 k1).2]
    rw [a.1, a.2.1, a.2.2, sl_congr (c := rcd E) (c' := rcd R) (fun k k0 k1 => hr k (by omega) (by omega)), sl_congr (c := rcd E) (c' := rcd R) (a := R 94 l) (fun k k0 k1 => hr k (by omega) (by omega))]
  refine ⟨⟨by rw [e1]; exact h1, fun l l0 l1 => ?_, fun k k0 k1 => ?_⟩, ?_⟩
  · rw [e1] at l1
    obtain ⟨a1, a2, a3, a4⟩ := hl l l0 l1
    rw [a1, a2, a3, a4]; exact h2 l l0 l1
  · rw [(e3 k k0 k1).1, (e3 k k0 k1).2]; exact h3 k k0 k1
  · unfold lwR
    rw [e1]
    exact mkl_congr _ _ (fun k k0 k1 => (hl k k0 (by omega)).2.2.2)
theorem HR_cg (h : HR C R) (e1 : cAl C D) (e2 : cLw C D) (e3 : rAl R E) (e4 : rLw R E) : HR D E := by
  obtain ⟨hcr, hpu, hbr, hst, hhu, hto, how, hbu, hpr, hnw, hdy, hje, hpg, hwd, hro, hlw⟩ := h
  obtain ⟨⟨c1, c2, c3, c4, c5, c6⟩, c7, c8, c9, c10, c11, c12, c13, c14⟩ := e1
  obtain ⟨⟨r1, r2, r3, r4, r5⟩, r6, r7, r8, r9, r10, r11, r12⟩ := e3
  refine ⟨by rw [c1, r1]; exact hcr, fun a a0 a1 => ?_, fun a a0 a1 => ?_, fun a a0 a1 => ?_, fun a a0 a1 => ?_, fun a a0 a1 => ?_, fun s s0 s1 => ?_, fun s s0 s1 => ?_, fun s s0 s1 => ?_, ?_, by rw [c4, r3]; exact hdy, by rw [c5, r2]; exact hje, ?_, ?_, ?_, ?_⟩
  · rw [(c7 a a0 a1).1, r6 a a0 (by omega)]; exact hpu a a0 a1
  · rw [(c7 a a0 a1).2.1, (r7 a a0 a1).1]; exact hbr a a0 a1
  · rw [(c7 a a0 a1).2.2.1, (r7 a a0 a1).2.1, c1]; exact hst a a0 a1
  · rw [(c7 a a0 a1).2.2.2.1, (r7 a a0 a1).2.2.1, c1]; exact hhu a a0 a1
  · rw [(c7 a a0 a1).2.2.2.2, (r7 a a0 a1).2.2.2, c1]; exact hto a a0 a1
  · rw [(c8 s s0 s1).1, (r8 s s0 s1).1, c1]; exact how s s0 s1
  · rw [(c8 s s0 s1).2.1, (r8 s s0 s1).2]; exact hbu s s0 s1
  · rw [(c8 s s0 s1).2.2, r6 _ (by omega) (by omega)]; exact hpr s s0 s1
  · rw [c2, c3, c6]
    exact ⟨by rw [r6 37 (by decide) (by decide)]; exact hnw.1, by rw [r6 38 (by decide) (by decide)]; exact hnw.2.1, by rw [r6 39 (by decide) (by decide)]; exact hnw.2.2.1, hnw.2.2.2⟩
  · rw [c9, r4]
    refine ⟨hpg.1, hpg.2.1, fun i i0 i1 => ?_⟩
    have := hpg.2.1
    rw [c10 i i0 i1, r9 i i0 (by omega)]; exact hpg.2.2 i i0 i1
  · rw [c13, r5]
    refine ⟨hwd.1, hwd.2.1, fun q q0 q1 => ?_⟩
    have hn := hwd.2.1
    have e := hwd.2.2 q q0 q1
    rw [c12 q q0 (by omega), r10 q q0 (by omega)]
    refine ⟨e.1, e.2.1, e.2.2.1, fun j j0 j1 => ?_⟩
    rw [c11 _ (by omega) (by omega), r11 _ (by omega) (by omega)]
    exact e.2.2.2 j j0 j1
  · rw [c2]
    intro k k0 k1
    have := hnw.2.2.2
    rw [c14 k k0 (by omega), r12 k k0 (by omega)]; exact hro k k0 k1
  · obtain ⟨l1, l2, l3, l4, l5⟩ := hlw
    obtain ⟨a1, a2⟩ := lw_c l1 e2
    obtain ⟨b1, b2⟩ := lw_r l2 e4
    exact ⟨a1, b1, by rw [a2, b2]; exact l3, by rw [a2, e2.2.2.2.2]; exact l4, by rw [e2.2.2.2.1, e4.1]; exact l5⟩
end D5
