/-! ===== what a printing does ===== -/
def up (h : Int → Int) (k v : Int) : Int → Int := fun j => if j = k then v else h j
theorem up_s {h : Int → Int} {k v : Int} : up h k v k = v := by unfold up; rw [if_pos rfl]
theorem up_n {h : Int → Int} {k v j : Int} (e : ¬ j = k) : up h k v j = h j := by unfold up; rw [if_neg e]
theorem wv_up {f : iF} {c : Nat} {k v : Int} : wv f c k v c = up (f c) k v := by
  funext j
  rw [wv_i]
  rfl
/-- a purse behind a pay -/
def pur (was pay : Int) : Int := if 99999 < was + pay then 99999 else was + pay
def bkN (ow now : Int → Int) (s pay : Int) : Int → Int := up (up (up now (ow s) (pur (now (ow s)) pay)) (8 + s) (w32 (now (8 + s) + 1))) 37 (if now 37 = 200 then 200 else now 37 + 1)
def bkR (ow now roll : Int → Int) (day s i pay : Int) : Int → Int := if now 37 = 200 then roll else up (up (up (up (up roll (5 * now 37) s) (5 * now 37 + 1) day) (5 * now 37 + 2) i) (5 * now 37 + 3) (ow s)) (5 * now 37 + 4) (pur (now (ow s)) pay - now (ow s))
/-- the least sign of an owner -/
def lsF (ow : Int → Int) (a : Int) : Nat → Int → Int
  | 0, s => s
  | m + 1, s => if ow s = a then s else lsF ow a m (s + 1)
def lsI (ow : Int → Int) (a : Int) : Int := lsF ow a 29 0
theorem lsF_r {ow : Int → Int} {a : Int} : ∀ (m : Nat) (s t : Int), s ≤ t → t < s + m → ow t = a → s ≤ lsF ow a m s ∧ lsF ow a m s ≤ t ∧ ow (lsF ow a m s) = a := by
  intro m
  induction m with
  | zero => intro s t h0 h1; omega
  | succ m ih =>
    intro s t h0 h1 ht
    rw [lsF]
    by_cases e : ow s = a
    · rw [if_pos e]
      exact ⟨Int.le_refl _, h0, e⟩
    · rw [if_neg e]
      have : ¬ s = t := fun h => e (by rw [h]; exact ht)
      obtain ⟨q1, q2, q3⟩ := ih (s + 1) t (by omega) (by omega) ht
      exact ⟨by omega, q2, q3⟩
theorem lsI_r {ow : Int → Int} {a t : Int} (h0 : 0 ≤ t) (h1 : t < 29) (ht : ow t = a) : 0 ≤ lsI ow a ∧ lsI ow a < 29 ∧ ow (lsI ow a) = a := by
  obtain ⟨q1, q2, q3⟩ := lsF_r 29 0 t h0 (by omega) ht
  exact ⟨q1, by show lsF ow a 29 0 < 29; omega, q3⟩
theorem lsF_s {ow : Int → Int} {a s : Int} {m : Nat} (h : ¬ ow s = a) : lsF ow a (m + 1) s = lsF ow a m (s + 1) := by rw [lsF, if_neg h]
theorem lsF_t {ow : Int → Int} {a s : Int} {m : Nat} (h : ow s = a) : lsF ow a (m + 1) s = s := by rw [lsF, if_pos h]
theorem lsF_cg {ow ow' : Int → Int} {a : Int} : ∀ (m : Nat) (s : Int), (∀ k, s ≤ k → k < s + m → ow k = ow' k) → lsF ow a m s = lsF ow' a m s := by
  intro m
  induction m with
  | zero => intro s _; rfl
  | succ m ih =>
    intro s h
    rw [lsF, lsF, h s (by omega) (by omega), ih (s + 1) (fun k h0 h1 => h k (by omega) (by omega))]
/-- purses, printed, lines, gaps, state; the roll; who was printed last (owner); how many -/
abbrev PT : Type := (Int → Int) × (Int → Int) × Int × Int
/-- the state of draws, the sign that counts -/
def prD (jl : Int) (now : Int → Int) : Int → Int := if 0 < jl then up now 39 (nxt (now 39)) else now
def prC (ow : Int → Int) (jl st : Int) (now : Int → Int) (lo : Int) : Int := if 0 < jl ∧ drw (nxt (now 39)) 1000 < jl ∧ ¬ lo = -1 then lsI ow lo else st
def prG (now : Int → Int) : Int → Int := up now 38 (w32 (now 38 + 1))
def prS (ab : Int → Bool) (ow : Int → Int) (day : Int) (w : Lw) (pg : Int → Int) (n jl i : Int) (p : PT) : PT :=
  if pg i = 29 then p
  else if ab (prC ow jl (pg i) p.1 p.2.2.1) = true then (bkN ow (prD jl p.1) (prC ow jl (pg i) p.1 p.2.2.1) (pyI ab ow day w (up pg i (prC ow jl (pg i) p.1 p.2.2.1)) n i), bkR ow (prD jl p.1) p.2.1 day (prC ow jl (pg i) p.1 p.2.2.1) i (pyI ab ow day w (up pg i (prC ow jl (pg i) p.1 p.2.2.1)) n i), ow (prC ow jl (pg i) p.1 p.2.2.1), p.2.2.2 + 1)
  else (prG (prD jl p.1), p.2.1, p.2.2.1, p.2.2.2)
def prN (ab : Int → Bool) (ow : Int → Int) (day : Int) (w : Lw) (pg : Int → Int) (n jl : Int) (p : PT) : Nat → PT
  | 0 => p
  | m + 1 => prS ab ow day w pg n jl (m : Int) (prN ab ow day w pg n jl p m)
def prI (ab : Int → Bool) (ow : Int → Int) (day : Int) (w : Lw) (pg : Int → Int) (n jl : Int) (p : PT) (i : Int) : PT := prN ab ow day w pg n jl p i.toNat
section PR
variable {ab : Int → Bool} {ow : Int → Int} {day : Int} {w : Lw} {pg : Int → Int} {n jl i : Int} {p : PT}
theorem prI_s (hi : 0 ≤ i) : prI ab ow day w pg n jl p (i + 1) = prS ab ow day w pg n jl i (prI ab ow day w pg n jl p i) := by
  unfold prI
  rw [show (i + 1).toNat = i.toNat + 1 by omega, prN, show ((i.toNat : Nat) : Int) = i by omega]
theorem prS_b (h : pg i = 29) : prS ab ow day w pg n jl i p = p := by unfold prS; rw [if_pos h]
theorem prS_g (h : ¬ pg i = 29) {c : Int} (hc : c = prC ow jl (pg i) p.1 p.2.2.1) (ha : ab c = false) : prS ab ow day w pg n jl i p = (prG (prD jl p.1), p.2.1, p.2.2.1, p.2.2.2) := by
  subst hc
  unfold prS
  rw [if_neg h, if_neg (by rw [ha]; decide)]
theorem prS_p (h : ¬ pg i = 29) {c : Int} (hc : c = prC ow jl (pg i) p.1 p.2.2.1) (ha : ab c = true) : prS ab ow day w pg n jl i p = (bkN ow (prD jl p.1) c (pyI ab ow day w (up pg i c) n i), bkR ow (prD jl p.1) p.2.1 day c i (pyI ab ow day w (up pg i c) n i), ow c, p.2.2.2 + 1) := by
  subst hc
  unfold prS
  rw [if_neg h, if_pos ha]
end PR
