/-! ===== swap and buy: what is asked ===== -/
/-- signs that changed hands -/
def sw (ow : Int → Int) (s t : Int) : Int → Int := up (up ow s (ow t)) t (ow s)
def gnB (bu st ow : Int → Int) (day : Int) (w : Lw) (row : Int → Int) (n s t : Int) : Bool := decide (¬ ow s = -1 ∧ ¬ ow t = -1 ∧ ¬ ow s = ow t ∧ enI (abl bu ow st) ow day w row n (ow s) < enI (abl bu (sw ow s t) st) (sw ow s t) day w row n (ow s) ∧ enI (abl bu ow st) ow day w row n (ow t) < enI (abl bu (sw ow s t) st) (sw ow s t) day w row n (ow t))
def gnQ (bu st ow : Int → Int) (day : Int) (w : Lw) (row : Int → Int) (n : Int) : Int → Bool := fun q => decide (q / 29 < q % 29) && gnB bu st ow day w row n (q / 29) (q % 29)
/-- the answers of swap -/
def SwpP (G : Int → Bool) (ans : Int → Int) : Prop := ans 0 = cI G 841 ∧ ((ans 0 = 0 ∧ ans 1 = -1 ∧ ans 2 = -1) ∨ (1 ≤ ans 0 ∧ ∃ q, 0 ≤ q ∧ q < 841 ∧ G q = true ∧ (∀ k, 0 ≤ k → k < q → G k = false) ∧ ans 1 = q / 29 ∧ ans 2 = q % 29))
theorem SwpP_u {G : Int → Bool} {a b : Int → Int} (ha : SwpP G a) (hb : SwpP G b) : ∀ w, 0 ≤ w → w ≤ 2 → a w = b w := by
  obtain ⟨a0, ha⟩ := ha
  obtain ⟨b0, hb⟩ := hb
  intro w h0 h1
  have : w = 0 ∨ w = 1 ∨ w = 2 := by omega
  have e0 : a 0 = b 0 := a0.trans b0.symm
  rcases ha with ⟨a1, a2, a3⟩ | ⟨a1, q, q0, q1, q2, q3, q4, q5⟩
  · rcases hb with ⟨b1, b2, b3⟩ | ⟨b1, -⟩
    · rcases this with e | e | e <;> subst e
      · exact e0
      · omega
      · omega
    · omega
  · rcases hb with ⟨b1, b2, b3⟩ | ⟨b1, p, p0, p1, p2, p3, p4, p5⟩
    · omega
    · have e : p = q := by
        rcases Int.lt_trichotomy p q with h | h | h
        · rw [q3 p p0 h] at p2; cases p2
        · exact h
        · rw [p3 q q0 h] at q2; cases q2
      subst e
      rcases this with e | e | e <;> subst e
      · exact e0
      · omega
      · omega
/-- a search has come to q: how many, the first (or -1) -/
def swI (G : Int → Bool) (q n fi : Int) : Prop := n = cI G q ∧ ((n = 0 ∧ fi = -1 ∧ ∀ k, 0 ≤ k → k < q → G k = false) ∨ (1 ≤ n ∧ 0 ≤ fi ∧ fi < q ∧ G fi = true ∧ ∀ k, 0 ≤ k → k < fi → G k = false))
theorem swI_0 {G : Int → Bool} : swI G 0 0 (-1) := ⟨rfl, Or.inl ⟨rfl, rfl, fun k h0 h1 => by omega⟩⟩
theorem swI_f {G : Int → Bool} {q n fi : Int} (hq : 0 ≤ q) (h : swI G q n fi) (hG : G q = false) : swI G (q + 1) n fi := by
  obtain ⟨h1, h2⟩ := h
  refine ⟨by rw [cI_f hq hG]; exact h1, ?_⟩
  rcases h2 with ⟨a, b, c⟩ | ⟨a, b, c, d, e⟩
  · refine Or.inl ⟨a, b, fun k h0 h1 => ?_⟩
    by_cases e : k = q
    · rw [e]; exact hG
    · exact c k h0 (by omega)
  · exact Or.inr ⟨a, b, by omega, d, e⟩
theorem swI_skip {G : Int → Bool} {q n fi : Int} (hq : 0 ≤ q) (h : swI G q n fi) : ∀ m : Nat, (∀ k, q ≤ k → k < q + m → G k = false) → swI G (q + m) n fi := by
  intro m
  induction m with
  | zero => intro _; rw [show q + ((0 : Nat) : Int) = q by omega]; exact h
  | succ m ih =>
    intro hk
    rw [show q + ((m + 1 : Nat) : Int) = q + m + 1 by omega]
    exact swI_f (by omega) (ih (fun k h0 h1 => hk k h0 (by omega))) (hk _ (by omega) (by omega))
theorem swI_t {G : Int → Bool} {q n fi : Int} (hq : 0 ≤ q) (h : swI G q n fi) (hG : G q = true) : swI G (q + 1) (n + 1) (if n = 0 then q else fi) := by
  obtain ⟨h1, h2⟩ := h
  refine ⟨by rw [cI_t hq hG, h1], Or.inr ?_⟩
  rcases h2 with ⟨a, b, c⟩ | ⟨a, b, c, d, e⟩
  · rw [if_pos a]
    exact ⟨by omega, hq, by omega, hG, c⟩
  · rw [if_neg (by omega)]
    exact ⟨by omega, b, by omega, d, e⟩
theorem swI_r {G : Int → Bool} {q n fi : Int} (hq : 0 ≤ q) (h : swI G q n fi) : 0 ≤ n ∧ n ≤ q ∧ -1 ≤ fi ∧ fi < q + 1 := by
  obtain ⟨h1, h2⟩ := h
  have := cI_le (p := G) hq
  rcases h2 with ⟨a, b, c⟩ | ⟨a, b, c, d, e⟩ <;> omega
theorem gnQ_st {bu st ow : Int → Int} {day : Int} {w : Lw} {row : Int → Int} {n s t : Int} (h0 : 0 ≤ s) (h1 : s < t) (h2 : t < 29) : gnQ bu st ow day w row n (29 * s + t) = gnB bu st ow day w row n s t := by
  unfold gnQ
  rw [show (29 * s + t) / 29 = s by omega, show (29 * s + t) % 29 = t by omega, decide_eq_true h1, Bool.true_and]
theorem gnQ_no {bu st ow : Int → Int} {day : Int} {w : Lw} {row : Int → Int} {n q : Int} (h : q % 29 ≤ q / 29) : gnQ bu st ow day w row n q = false := by
  unfold gnQ
  rw [decide_eq_false (by omega), Bool.false_and]
/-! buy -/
def cok (cnt x y z : Int) : Prop := 0 ≤ x ∧ x < cnt ∧ ((y = -1 ∧ z = -1) ∨ (x < y ∧ y < cnt ∧ (z = -1 ∨ (y < z ∧ z < cnt))))
def szc (y z : Int) : Int := if y = -1 then 1 else if z = -1 then 2 else 3
def odc (x y z : Int) : Int := x * 441 + (y + 1) * 21 + (z + 1)
def btr (V : Int → Int → Int → Int) (x y z x' y' z' : Int) : Prop := V x' y' z' < V x y z ∨ (V x y z = V x' y' z' ∧ (szc y z < szc y' z' ∨ (szc y z = szc y' z' ∧ odc x y z < odc x' y' z')))
def BuyP (V : Int → Int → Int → Int) (cnt : Int) (ans : Int → Int) : Prop := cok cnt (ans 1) (ans 2) (ans 3) ∧ ans 0 = V (ans 1) (ans 2) (ans 3) ∧ ∀ x y z, cok cnt x y z → ¬ btr V x y z (ans 1) (ans 2) (ans 3)
theorem peel441 {x x' r r' : Int} (h : x * 441 + r = x' * 441 + r') (h0 : 0 ≤ r) (h1 : r < 441) (h2 : 0 ≤ r') (h3 : r' < 441) : x = x' ∧ r = r' := by omega
theorem peel21 {x x' r r' : Int} (h : x * 21 + r = x' * 21 + r') (h0 : 0 ≤ r) (h1 : r < 21) (h2 : 0 ≤ r') (h3 : r' < 21) : x = x' ∧ r = r' := by omega
theorem cok_r {cnt x y z : Int} (hc : cnt ≤ 20) (h : cok cnt x y z) : 0 ≤ x ∧ x ≤ 19 ∧ -1 ≤ y ∧ y ≤ 19 ∧ -1 ≤ z ∧ z ≤ 19 := by
  unfold cok at h
  omega
theorem odc_inj {cnt x y z x' y' z' : Int} (hc : cnt ≤ 20) (h : cok cnt x y z) (h' : cok cnt x' y' z') (e : odc x y z = odc x' y' z') : x = x' ∧ y = y' ∧ z = z' := by
  have b1 := cok_r hc h
  have b2 := cok_r hc h'
  clear h h'
  unfold odc at e
  rw [Int.add_assoc, Int.add_assoc] at e
  obtain ⟨e1, e2⟩ := peel441 e (by omega) (by omega) (by omega) (by omega)
  obtain ⟨e3, e4⟩ := peel21 e2 (by omega) (by omega) (by omega) (by omega)
  omega
theorem BuyP_u {V : Int → Int → Int → Int} {cnt : Int} {a b : Int → Int} (hc : cnt ≤ 20) (ha : BuyP V cnt a) (hb : BuyP V cnt b) : ∀ w, 0 ≤ w → w ≤ 3 → a w = b w := by
  obtain ⟨a1, a2, a3⟩ := ha
  obtain ⟨b1, b2, b3⟩ := hb
  have e1 := a3 _ _ _ b1
  have e2 := b3 _ _ _ a1
  unfold btr at e1 e2
  obtain ⟨q1, q2, q3⟩ := odc_inj hc a1 b1 (by omega)
  have q0 : a 0 = b 0 := by rw [a2, b2, q1, q2, q3]
  intro w h0 h1
  have : w = 0 ∨ w = 1 ∨ w = 2 ∨ w = 3 := by omega
  rcases this with e | e | e | e <;> subst e <;> assumption
/-- a search by any order K of the ways has come to k -/
def byI (V : Int → Int → Int → Int) (cnt : Int) (K : Int → Int → Int → Int) (k mo x y z : Int) : Prop := (mo = -1 ∧ ∀ a b c, cok cnt a b c → k ≤ K a b c) ∨ (cok cnt x y z ∧ mo = V x y z ∧ K x y z < k ∧ ∀ a b c, cok cnt a b c → K a b c < k → ¬ btr V a b c x y z)
theorem byI_skip {V : Int → Int → Int → Int} {cnt : Int} {K : Int → Int → Int → Int} {k k' mo x y z : Int} (h : byI V cnt K k mo x y z) (hk : k ≤ k') (hn : ∀ a b c, cok cnt a b c → k ≤ K a b c → k' ≤ K a b c) : byI V cnt K k' mo x y z := by
  rcases h with ⟨h1, h2⟩ | ⟨h1, h2, h3, h4⟩
  · exact Or.inl ⟨h1, fun a b c hc => hn a b c hc (h2 a b c hc)⟩
  · refine Or.inr ⟨h1, h2, by omega, fun a b c hc hl => ?_⟩
    by_cases e : K a b c < k
    · exact h4 a b c hc e
    · have := hn a b c hc (by omega)
      omega
/-- the way a b c takes the place -/
theorem byI_new {V : Int → Int → Int → Int} {cnt : Int} {K : Int → Int → Int → Int} {k mo x y z a b c : Int} (h : byI V cnt K k mo x y z) (hV : ∀ a b c, cok cnt a b c → 0 ≤ V a b c) (hc : cok cnt a b c) (hK : K a b c = k) (hi : ∀ a' b' c', cok cnt a' b' c' → K a' b' c' = k → a' = a ∧ b' = b ∧ c' = c) (hb : mo < V a b c ∨ (mo = V a b c ∧ (szc b c < szc y z ∨ (szc b c = szc y z ∧ odc a b c < odc x y z)))) : byI V cnt K (k + 1) (V a b c) a b c := by
  refine Or.inr ⟨hc, rfl, by omega, fun a' b' c' hc' hl hbt => ?_⟩
  by_cases e : K a' b' c' = k
  · obtain ⟨rfl, rfl, rfl⟩ := hi a' b' c' hc' e
    unfold btr at hbt
    omega
  · have hv := hV a' b' c' hc'
    have hv2 := hV a b c hc
    rcases h with ⟨h1, h2⟩ | ⟨h1, h2, h3, h4⟩
    · have := h2 a' b' c' hc'
      omega
    · have := h4 a' b' c' hc' (by omega)
      unfold btr at this hbt
      omega
/-- it doesn't -/
theorem byI_old {V : Int → Int → Int → Int} {cnt : Int} {K : Int → Int → Int → Int} {k mo x y z a b c : Int} (h : byI V cnt K k mo x y z) (hV : ∀ a b c, cok cnt a b c → 0 ≤ V a b c) (hc : cok cnt a b c) (hK : K a b c = k) (hi : ∀ a' b' c', cok cnt a' b' c' → K a' b' c' = k → a' = a ∧ b' = b ∧ c' = c) (hb : ¬ (mo < V a b c ∨ (mo = V a b c ∧ (szc b c < szc y z ∨ (szc b c = szc y z ∧ odc a b c < odc x y z))))) : byI V cnt K (k + 1) mo x y z := by
  have hv2 := hV a b c hc
  rcases h with ⟨h1, h2⟩ | ⟨h1, h2, h3, h4⟩
  · omega
  · refine Or.inr ⟨h1, h2, by omega, fun a' b' c' hc' hl => ?_⟩
    by_cases e : K a' b' c' = k
    · obtain ⟨rfl, rfl, rfl⟩ := hi a' b' c' hc' e
      unfold btr
      omega
    · exact h4 a' b' c' hc' (by omega)
def kRef (x y z : Int) : Int := szc y z * 10000 + odc x y z
theorem kRef_inj {cnt x y z a b c : Int} (hcn : cnt ≤ 20) (hc : cok cnt x y z) : ∀ a' b' c', cok cnt a' b' c' → kRef a' b' c' = kRef x y z → a' = x ∧ b' = y ∧ c' = z := by
  intro a' b' c' h e
  unfold kRef at e
  have b1 := cok_r hcn hc
  have b2 := cok_r hcn h
  refine odc_inj hcn h hc ?_
  have e1 : 0 ≤ odc x y z ∧ odc x y z < 10000 := by unfold odc; omega
  have e2 : 0 ≤ odc a' b' c' ∧ odc a' b' c' < 10000 := by unfold odc; omega
  omega
/-- the row of one to three words -/
def ln3 (L : Int → Int) (x y z : Int) : Int := L x + (if y = -1 then 0 else 1 + L y) + (if z = -1 then 0 else 1 + L z)
def rw3 (L W : Int → Int) (x y z : Int) : Int → Int := fun p => if p < L x then W (12 * x + p) else if p = L x then 29 else if p < L x + 1 + L y then W (12 * y + (p - (L x + 1))) else if p = L x + 1 + L y then 29 else W (12 * z + (p - (L x + 1 + L y + 1)))
def vB (ab : Int → Bool) (ow : Int → Int) (day : Int) (w : Lw) (L W : Int → Int) (a x y z : Int) : Int := enI ab ow day w (rw3 L W x y z) (ln3 L x y z) a
