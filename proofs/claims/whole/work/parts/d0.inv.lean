/-! ===== THE INVARIANT: the class and the reference hold the same ===== -/
def iCr (c c' : Int) : Prop := c = c' ∧ 0 ≤ c ∧ c ≤ 8
def iPu (pu now : Int → Int) : Prop := ∀ a, 0 ≤ a → a < 8 → pu a = now a ∧ 0 ≤ pu a ∧ pu a ≤ 99999
def iBr (br br' : Int → Int) : Prop := ∀ a, 0 ≤ a → a < 8 → br a = br' a ∧ 0 ≤ br a ∧ br a ≤ 99
def iSt (c : Int) (st st' : Int → Int) : Prop := ∀ a, 0 ≤ a → a < 8 → st a = st' a ∧ (st a = 0 ∨ st a = 1) ∧ (c ≤ a → st a = 0)
def iHu (c : Int) (hu hu' : Int → Int) : Prop := ∀ a, 0 ≤ a → a < 8 → hu a = hu' a ∧ (c ≤ a → hu a = 0)
def iTo (c : Int) (to to' : Int → Int) : Prop := ∀ a, 0 ≤ a → a < 8 → (a < c → to a = to' a - 1) ∧ (0 ≤ to' a ∧ to' a ≤ 100000) ∧ (c ≤ a → to' a = 0)
def iOw (c : Int) (ow ow' : Int → Int) : Prop := ∀ s, 0 ≤ s → s < 29 → ow s = ow' s - 1 ∧ -1 ≤ ow s ∧ ow s < c
def iBu (bu bu' : Int → Int) : Prop := ∀ s, 0 ≤ s → s < 29 → bu s = bu' s ∧ (bu s = 0 ∨ bu s = 1)
def iPr (pr now : Int → Int) : Prop := ∀ s, 0 ≤ s → s < 29 → pr s = now (8 + s)
def iNw (rl gp se : Int) (now : Int → Int) : Prop := rl = now 37 ∧ gp = now 38 ∧ se = now 39 ∧ 0 ≤ rl ∧ rl ≤ 200
def iDy (d d' : Int) : Prop := d = d' ∧ 0 ≤ d ∧ d ≤ 9999
def iJe (j j' : Int) : Prop := j = j' ∧ 0 ≤ j ∧ j ≤ 1000
def iPg (n n' : Int) (pg pg' : Int → Int) : Prop := n = n' ∧ (0 ≤ n ∧ n ≤ 60) ∧ ∀ i, 0 ≤ i → i < n → pg i = pg' i ∧ 0 ≤ pg i ∧ pg i ≤ 29
def iWd (n n' : Int) (L L' W W' : Int → Int) : Prop := n = n' ∧ (0 ≤ n ∧ n ≤ 20) ∧ ∀ q, 0 ≤ q → q < n → L q = L' q ∧ 1 ≤ L q ∧ L q ≤ 12 ∧ ∀ j, 0 ≤ j → j < L q → W (12 * q + j) = W' (12 * q + j) ∧ 0 ≤ W (12 * q + j) ∧ W (12 * q + j) ≤ 25
def iRo (rl : Int) (ro ro' : Int → Int) : Prop := ∀ k, 0 ≤ k → k < 5 * rl → ro k = ro' k
def iLw (C R : iF) : Prop := lC C ∧ lB R ∧ lwC C = lwR R ∧ lwask (C (fv 15 5) 0) (lwC C) ∧ C (fv 15 4) 0 = R (fv 79 27) 0
/-- a house of the class, and one of the reference -/
def HR (C R : iF) : Prop := iCr (C (fv 1 0) 0) (R (fv 79 4) 0) ∧ iPu (C 2) (R 80) ∧ iBr (C 3) (R 82) ∧ iSt (C (fv 1 0) 0) (C 4) (R 83) ∧ iHu (C (fv 1 0) 0) (C 5) (R 84) ∧ iTo (C (fv 1 0) 0) (C 6) (R 85) ∧ iOw (C (fv 1 0) 0) (C 7) (R 86) ∧ iBu (C 8) (R 87) ∧ iPr (C 9) (R 80) ∧ iNw (C (fv 1 13) 0) (C (fv 1 14) 0) (C (fv 1 17) 0) (R 80) ∧ iDy (C (fv 1 15) 0) (R (fv 79 12) 0) ∧ iJe (C (fv 1 16) 0) (R (fv 79 11) 0) ∧ iPg (C (fv 10 1) 0) (R (fv 79 13) 0) (C 11) (R 88) ∧ iWd (C (fv 12 2) 0) (R (fv 79 17) 0) (C 14) (R 90) (C 13) (R 91) ∧ iRo (C (fv 1 13) 0) (C 19) (R 103) ∧ iLw C R
def iTp (n n' : Int) (t t' : Int → Int) : Prop := n = n' ∧ tpB t n ∧ ∀ k, 0 ≤ k → k < n → t k = t' k
def iFa (a a' b b' : Int) : Prop := a = a' ∧ b = b'
/-- printings that can be undone -/
def iSh (n n' rl : Int) (A B D E G R : Int → Int) : Prop := n = n' ∧ (0 ≤ n ∧ n ≤ 6) ∧ ∀ r, 0 ≤ r → r < n → (∀ a, 0 ≤ a → a < 8 → A (8 * r + a) = R (40 * r + a) ∧ 0 ≤ A (8 * r + a) ∧ A (8 * r + a) ≤ 99999) ∧ (∀ s, 0 ≤ s → s < 29 → B (29 * r + s) = R (40 * r + (8 + s))) ∧ (D r = R (40 * r + 37) ∧ E r = R (40 * r + 38) ∧ G r = R (40 * r + 39)) ∧ 0 ≤ D r ∧ (r + 1 < n → D r ≤ D (r + 1)) ∧ (r + 1 = n → D r ≤ rl)
/-- the kept house, by the house's cells -/
def kH (f : iF) : iF := fun c => f (c + 19)
/-- the reference's image, by its cells -/
def rI (f : iF) : iF := fun c j =>
  if c = 80 then f 105 (0 + 1 * j) else if c = fv 79 4 then f 105 40 else if c = 82 then f 105 (41 + 4 * j) else if c = 83 then f 105 (42 + 4 * j) else if c = 84 then f 105 (43 + 4 * j) else if c = 85 then f 105 (44 + 4 * j) else if c = 86 then f 105 (73 + 2 * j) else if c = 87 then f 105 (74 + 2 * j) else if c = fv 79 11 then f 105 131 else if c = fv 79 12 then f 105 132 else if c = fv 79 13 then f 105 133 else if c = 88 then f 105 (134 + 1 * j) else if c = fv 79 17 then f 105 194 else if c = 90 then f 105 (195 + 1 * j) else if c = 91 then f 105 (215 + 1 * j) else if c = 103 then f 105 (455 + 1 * j) else if c = fv 79 27 then f 105 1455 else if c = 94 then f 105 (1456 + 3 * j) else if c = 95 then f 105 (1457 + 3 * j) else if c = 96 then f 105 (1458 + 3 * j) else if c = 97 then f 105 (1504 + 2 * j) else f 105 (1505 + 2 * j)
def iIm (f : iF) : Prop := f (fv 0 2) 0 = f (fv 79 50) 0 ∧ (f (fv 0 2) 0 = 0 ∨ f (fv 0 2) 0 = 1) ∧ (f (fv 0 2) 0 = 1 → HR (kH f) (rI f))
def EaC (f : iF) : (Int → Int) → Prop := fun row => alE (aC f) (f 7) (f (fv 1 15) 0) (lwC f) (f 3) (f 4) (f 8) (f (fv 1 0) 0) row (f (fv 10 1) 0)
/-- what the class remembers of its thoughts -/
def iFe (f : iF) : Prop := (¬ f (fv 62 0) 0 = 0 → FewP (EaC f) (f 11) (f (fv 10 1) 0) (f 63)) ∧ 0 ≤ f (fv 62 11) 0 ∧ f (fv 62 11) 0 < 8
def iBy (f : iF) : Prop := 0 ≤ f (fv 72 0) 0 → BuyP (vB (aC f) (f 7) (f (fv 1 15) 0) (lwC f) (f 14) (f 13) (f (fv 72 0) 0)) (f (fv 12 2) 0) (fun w => f 73 w)
def iSw (f : iF) : Prop := ¬ f (fv 76 0) 0 = 0 → SwpP (gnQ (f 8) (f 4) (f 7) (f (fv 1 15) 0) (lwC f) (f 11) (f (fv 10 1) 0)) (fun w => f 77 w)
def Inv (f : iF) (g : iG) : Prop := HR f f ∧ iTp (f (fv 39 1) 0) (f (fv 79 21) 0) (f 40) (f 92) ∧ iFa (f (fv 41 1) 0) (f (fv 79 39) 0) (f (fv 41 2) 0) (f (fv 79 40) 0) ∧ iSh (f (fv 48 5) 0) (f (fv 79 3) 0) (f (fv 1 13) 0) (f 49) (f 50) (f 51) (f 52) (f 53) (f 81) ∧ iIm f ∧ iFe f ∧ iBy f ∧ iSw f ∧ mOK (lwC f) g ∧ wdB f ∧ f 44 0 = 0
/-! what follows of it -/
section INV
variable {f : iF} {g : iG}
theorem v_ab (h : HR f f) : aC f = aR f := by
  obtain ⟨hcr, -, -, hst, -, -, how, hbu, -⟩ := h
  exact abl_eq (fun s s0 s1 => ⟨(hbu s s0 s1).1, (how s s0 s1).1⟩) (fun s s0 s1 s2 => (hst _ s2 (by have := (how s s0 s1).2.2; have := hcr.2; omega)).1)
theorem v_co (h : HR f f) : coB f := by
  obtain ⟨hcr, -, -, hst, -, -, how, -⟩ := h
  exact ⟨hcr.2, fun s s0 s1 => (how s s0 s1).2⟩
theorem v_o (h : HR f f) : oB f := by
  obtain ⟨hcr, -, -, hst, -, -, how, -⟩ := h
  exact fun s s0 s1 => by have := how s s0 s1; have := hcr.2; omega
theorem v_ow (h : HR f f) : ∀ s, 0 ≤ s → s < 29 → f 7 s = oR f s := by
  obtain ⟨hcr, -, -, hst, -, -, how, -⟩ := h
  exact fun s s0 s1 => (how s s0 s1).1
theorem v_lw (h : HR f f) : lC f ∧ lB f ∧ lwC f = lwR f ∧ lwask (f (fv 15 5) 0) (lwC f) ∧ f (fv 15 4) 0 = f (fv 79 27) 0 := h.2.2.2.2.2.2.2.2.2.2.2.2.2.2.2
theorem v_pg (h : HR f f) : iPg (f (fv 10 1) 0) (f (fv 79 13) 0) (f 11) (f 88) := h.2.2.2.2.2.2.2.2.2.2.2.2.1
theorem v_wd (h : HR f f) : iWd (f (fv 12 2) 0) (f (fv 79 17) 0) (f 14) (f 90) (f 13) (f 91) := h.2.2.2.2.2.2.2.2.2.2.2.2.2.1
theorem v_row (h : HR f f) : rowB (f (fv 10 1) 0) 60 (f 11) := ⟨(v_pg h).2.1, fun i i0 i1 => ((v_pg h).2.2 i i0 i1).2⟩
theorem v_pgB (h : HR f f) : pgB f := by
  have q := v_pg h
  refine ⟨by rw [← q.1]; exact q.2.1, fun i i0 i1 => ?_⟩
  rw [← q.1] at i1
  have := q.2.2 i i0 i1
  rw [← this.1]; exact this.2
theorem v_wl (h : HR f f) : wlB (f 14) (f 13) (f (fv 12 2) 0) := ⟨(v_wd h).2.1, fun q q0 q1 => by have := (v_wd h).2.2 q q0 q1; exact ⟨this.2.1, this.2.2.1, fun j j0 j1 => (this.2.2.2 j j0 j1).2⟩⟩
theorem v_wlR (h : HR f f) : wlB (f 90) (f 91) (f (fv 79 17) 0) := by
  have q := v_wd h
  refine ⟨by rw [← q.1]; exact q.2.1, fun x x0 x1 => ?_⟩
  rw [← q.1] at x1
  have := q.2.2 x x0 x1
  rw [← this.1]
  exact ⟨this.2.1, this.2.2.1, fun j j0 j1 => by have e := this.2.2.2 j j0 j1; rw [← e.1]; exact e.2⟩
theorem v_dy (h : HR f f) : iDy (f (fv 1 15) 0) (f (fv 79 12) 0) := h.2.2.2.2.2.2.2.2.2.2.1
theorem v_je (h : HR f f) : iJe (f (fv 1 16) 0) (f (fv 79 11) 0) := h.2.2.2.2.2.2.2.2.2.2.2.1
theorem v_cr (h : HR f f) : iCr (f (fv 1 0) 0) (f (fv 79 4) 0) := h.1
theorem v_in (s : Int) (h : aC f s = true) : 0 ≤ s ∧ s < 29 := aC_in s h
/-- what one earns is the same -/
theorem v_en (h : HR f f) {a : Int} : enI (aC f) (f 7) (f (fv 1 15) 0) (lwC f) (f 11) (f (fv 10 1) 0) a = enI (aR f) (oR f) (f (fv 79 12) 0) (lwR f) (f 88) (f (fv 79 13) 0) a := by
  rw [en_ow v_in (v_ow h), enI_cg (fun k k0 k1 => ((v_pg h).2.2 k k0 k1).1), v_ab h, (v_dy h).1, (v_lw h).2.2.1, (v_pg h).1]
end INV
