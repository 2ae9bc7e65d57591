/-! ===== why a place is given up ===== -/
theorem cI_one {p p' : Int → Bool} {q : Int} (hq : 0 ≤ q) (h : ∀ k, 0 ≤ k → ¬ k = q → p k = p' k) (hf : p' q = false) : ∀ m : Nat, cI p m = cI p' m + (if q < m ∧ p q = true then 1 else 0) := by
  intro m
  induction m with
  | zero =>
    rw [if_neg (by omega)]
    rfl
  | succ m ih =>
    rw [show (((m + 1 : Nat)) : Int) = (m : Int) + 1 by omega, cI_s (by omega), cI_s (by omega), ih]
    by_cases e : (m : Int) = q
    · rw [e, hf, if_neg (show ¬ (q < q ∧ p q = true) by omega)]
      cases hp : p q <;> simp [show q < q + 1 by omega]
    · rw [h m (by omega) e]
      generalize (if p' (m : Int) = true then (1 : Int) else 0) = z
      by_cases e3 : q < (m : Int) ∧ p q = true
      · rw [if_pos e3, if_pos (show q < (m : Int) + 1 ∧ p q = true from ⟨by have := e3.1; omega, e3.2⟩)]
        omega
      · rw [if_neg e3, if_neg (show ¬ (q < (m : Int) + 1 ∧ p q = true) from fun x => e3 ⟨by have := x.1; omega, x.2⟩)]
        omega
theorem hn_up {ab : Int → Bool} {ow r : Int → Int} {n q t o : Int} (hq : 0 ≤ q ∧ q < n) (h29 : ab 29 = false) : hnI ab ow (up r q t) n o = hnI ab ow (up r q 29) n o + (if ab t = true ∧ ow t = o then 1 else 0) := by
  have h := cI_one (p := fun i => ab (up r q t i) && decide (ow (up r q t i) = o)) (p' := fun i => ab (up r q 29 i) && decide (ow (up r q 29 i) = o)) (q := q) hq.1 (fun k _ hk => by simp only [up_n hk]) (by simp only [up_s, h29, Bool.false_and]) n.toNat
  rw [show ((n.toNat : Nat) : Int) = n by omega] at h
  unfold hnI
  rw [h]
  simp only [up_s]
  by_cases e : ab t = true ∧ ow t = o
  · rw [if_pos e, if_pos ⟨hq.2, by rw [e.1, decide_eq_true e.2]; rfl⟩]
  · rw [if_neg e, if_neg (fun x => e (by rw [Bool.and_eq_true, decide_eq_true_iff] at x; exact x.2))]
/-- everybody is fed -/
def fdP (ls : Int → Int) (ab : Int → Bool) (ow : Int → Int) (day : Int) (w : Lw) (r : Int → Int) (n : Int) : Prop := ∀ o, 0 ≤ o → o < 8 → ls o ≤ enI ab ow day w r n o
theorem prune {ab : Int → Bool} {ow r ls nd hd : Int → Int} {day n q t mo lk : Int} {w : Lw} (hab : ∀ s, ab s = true → 0 ≤ s ∧ s < 29) (how : ∀ s, 0 ≤ s → s < 29 → -1 ≤ ow s ∧ ow s ≤ 8) (hday : 0 ≤ day) (hq : 0 ≤ q ∧ q < n) (hr : ∀ i, 0 ≤ i → i < n → 0 ≤ r i ∧ r i ≤ 29) (ht : 0 ≤ t ∧ t ≤ 29) (hm : 0 ≤ mo) (hpm : ∀ fa, bnd fa (bdF day n) → payM fa w ≤ mo) (hnd : ∀ o, 0 ≤ o → o < 8 → nd o = ndI (ls o) mo) (hhd : ∀ o, 0 ≤ o → o < 8 → hd o = hnI ab ow (up r q 29) n o) (hlk : lk = sI (fun o => max 0 (nd o - hd o)) 8) (hE : fdP ls ab ow day w (up r q t) n) : lk ≤ 1 ∧ (lk = 1 → ab t = true ∧ hd (ow t) < nd (ow t)) := by
  have h29 : ab 29 = false := by
    cases e : ab 29 with
    | false => rfl
    | true => have := hab 29 e; omega
  have hr2 : ∀ i, 0 ≤ i → i < n → 0 ≤ up r q t i ∧ up r q t i ≤ 29 := by
    intro i i0 i1
    by_cases e : i = q
    · rw [e, up_s]; exact ht
    · rw [up_n e]; exact hr i i0 i1
  have hall : ∀ o, 0 ≤ o → o < 8 → nd o ≤ hd o + (if ab t = true ∧ ow t = o then 1 else 0) := by
    intro o o0 o1
    rw [hhd o o0 o1, ← hn_up hq h29]
    have e1 := hE o o0 o1
    have e2 := en_hn (ab := ab) (ow := ow) (day := day) (w := w) (r := up r q t) (n := n) (a := o) (mo := mo) (by omega) (fun k k0 k1 k2 => hpm _ (fct_bnd hab (how _ (hab _ k2).1 (hab _ k2).2) hday ⟨k0, k1⟩ (hr2 k k0 k1)))
    have e3 := cI_le (p := fun i => ab (up r q t i) && decide (ow (up r q t i) = o)) (n := n) (by omega)
    by_cases e : nd o ≤ hnI ab ow (up r q t) n o
    · exact e
    · have e4 := nd_lt (l := ls o) (mo := mo) (h := hnI ab ow (up r q t) n o) hm e3.1 (by rw [← hnd o o0 o1]; omega)
      omega
  have h := lack_1 hlk hall
  exact ⟨h.1, fun e => ⟨(h.2 e).1, (h.2 e).2.2.2⟩⟩
/-- a listed sign stands for another -/
theorem chP_E {ab : Int → Bool} {ow r ls ch : Int → Int} {day n q r0 b c t : Int} {w : Lw} (hC : chP ab r0 ch b c 29) (ht : 0 ≤ t ∧ t < 29) (htr : ¬ t = r0) (hr29 : ¬ r0 = 29) (hE : fdP ls ab ow day w (up r q t) n) : ∃ k, 0 ≤ k ∧ k < c ∧ ch (b + k) ≤ t ∧ fdP ls ab ow day w (up r q (ch (b + k))) n := by
  obtain ⟨k, k0, k1, k2⟩ := hC.2.2 t ht.1 ht.2 htr hr29
  rcases k2 with e | ⟨e1, e2, e3, e4⟩
  · exact ⟨k, k0, k1, by omega, by rw [e]; exact hE⟩
  · refine ⟨k, k0, k1, e1, fun o o0 o1 => ?_⟩
    rw [en_un (r := up r q (ch (b + k))) (r' := up r q t) (i := q) (fun x _ _ hx => by rw [up_n hx, up_n hx]) (by rw [up_s, up_s]; exact e4) (by rw [up_s]; exact e2) (by rw [up_s]; exact e3)]
    exact hE o o0 o1
/-- the first listed sign that feeds all is the first sign that does -/
theorem chP_first {ab : Int → Bool} {ow r ls ch : Int → Int} {day n q r0 b c k : Int} {w : Lw} (hC : chP ab r0 ch b c 29) (hk : 0 ≤ k ∧ k < c) (hz : ∀ x, 0 ≤ x → x < k → ¬ fdP ls ab ow day w (up r q (ch (b + x))) n) : ∀ t, 0 ≤ t → t < ch (b + k) → ¬ t = r0 → ¬ r0 = 29 → ¬ fdP ls ab ow day w (up r q t) n := by
  intro t t0 t1 t2 t3 hE
  have hb := hC.1 k hk.1 hk.2
  obtain ⟨x, x0, x1, x2, x3⟩ := chP_E hC ⟨t0, by omega⟩ t2 t3 hE
  by_cases e : x < k
  · exact hz x x0 e x3
  · by_cases e2 : x = k
    · rw [e2] at x2; omega
    · have := hC.2.1 k x hk.1 (by omega) x1
      omega
theorem chP_none {ab : Int → Bool} {ow r ls ch : Int → Int} {day n q r0 b c : Int} {w : Lw} (hC : chP ab r0 ch b c 29) (hz : ∀ x, 0 ≤ x → x < c → ¬ fdP ls ab ow day w (up r q (ch (b + x))) n) : ∀ t, 0 ≤ t → t < 29 → ¬ t = r0 → ¬ r0 = 29 → ¬ fdP ls ab ow day w (up r q t) n := by
  intro t t0 t1 t2 t3 hE
  obtain ⟨x, x0, x1, x2, x3⟩ := chP_E hC ⟨t0, t1⟩ t2 t3 hE
  exact hz x x0 x1 x3
