/-! ===== whom a strike hurts, in two ways ===== -/
theorem sm_sub {h k : Int → Int} : ∀ n : Nat, sm (fun o => h o - k o) n = sm h n - sm k n
  | 0 => rfl
  | n + 1 => by rw [sm, sm, sm, sm_sub n]; omega
theorem sI_sub {h k : Int → Int} {n : Int} : sI (fun o => h o - k o) n = sI h n - sI k n := sm_sub _
theorem sm_0 : ∀ n : Nat, sm (fun _ => 0) n = 0
  | 0 => rfl
  | n + 1 => by rw [sm, sm_0 n]; rfl
theorem sI_z {h : Int → Int} {n : Int} (e : ∀ k : Int, 0 ≤ k → k < n → h k = 0) : sI h n = 0 := by
  rw [sI_congr (h' := fun _ => 0) e]; exact sm_0 _
theorem sm_ext {h : Int → Int} : ∀ (m n : Nat), (∀ k : Int, (n : Int) ≤ k → k < n + m → h k = 0) → sm h (n + m) = sm h n
  | 0, _, _ => rfl
  | m + 1, n, e => by
    rw [show n + (m + 1) = (n + m) + 1 by omega, sm, sm_ext m n (fun k h0 h1 => e k h0 (by omega)), e _ (by omega) (by omega)]; omega
theorem sI_ext {h : Int → Int} {c : Int} (hc : 0 ≤ c ∧ c ≤ 8) (e : ∀ k : Int, c ≤ k → k < 8 → h k = 0) : sI h 8 = sI h c := by
  unfold sI
  have := sm_ext (h := h) (8 - c.toNat) c.toNat (fun k h0 h1 => e k (by omega) (by omega))
  rw [show c.toNat + (8 - c.toNat) = 8 by omega] at this
  exact this
section HU
variable {ab : Int → Bool} {bu ow st : Int → Int} {day : Int} {w : Lw} {row : Int → Int} {n a crew : Int}
theorem en_no {o : Int} (h : ∀ s, ab s = true → ¬ ow s = o) : enI ab ow day w row n o = 0 := by
  refine sI_z (fun i i0 i1 => ?_)
  show (if ab (row i) = true ∧ ow (row i) = o then pyI ab ow day w row n i else 0) = 0
  exact if_neg (fun q => h _ q.1 q.2)
theorem hurt_0 (hc : 0 ≤ crew ∧ crew ≤ 8) (ho : ∀ s, 0 ≤ s → s < 29 → ow s < crew) : sI (fun o => if o = a then 0 else enI (abl bu ow st) ow day w row n o - enI (abl bu ow (up st a 1)) ow day w row n o) 8 = hurM (abl bu ow st) (abl bu ow (up st a 1)) ow day w row n crew a 0 := by
  have hz : ∀ (st' : Int → Int) o, crew ≤ o → enI (abl bu ow st') ow day w row n o = 0 := fun st' o h0 => en_no (fun s q => by have h1 := abl_in s q; have := ho s h1.1 h1.2; omega)
  rw [sI_ext hc (fun k h0 h1 => by
    show (if k = a then 0 else enI (abl bu ow st) ow day w row n k - enI (abl bu ow (up st a 1)) ow day w row n k) = 0
    rw [hz st k h0, hz (up st a 1) k h0]; split <;> rfl)]
  unfold hurM
  rw [if_pos rfl, ← sI_sub]
  refine sI_congr (fun k _ _ => ?_)
  by_cases e : k = a
  · rw [if_pos e, if_pos e, if_pos e]; rfl
  · rw [if_neg e, if_neg e, if_neg e]
theorem hurt_1 (ha : 0 ≤ a) : cI (fun i => abl bu ow st (row i) && decide (ow (row i) = a)) n = hurM (abl bu ow st) (abl bu ow (up st a 1)) ow day w row n crew a 1 := by
  unfold hurM
  rw [if_neg (by decide)]
  unfold cI
  rw [← sI_sub]
  refine sI_congr (fun i _ _ => ?_)
  show (if (abl bu ow st (row i) && decide (ow (row i) = a)) = true then (1 : Int) else 0) = (if (decide (¬ row i = 29) && !abl bu ow (up st a 1) (row i)) = true then 1 else 0) - (if (decide (¬ row i = 29) && !abl bu ow st (row i)) = true then 1 else 0)
  have key : ∀ s : Int, (abl bu ow (up st a 1) s = true) ↔ (abl bu ow st s = true ∧ ¬ ow s = a) := by
    intro s
    rw [abl_t, abl_t]
    constructor
    · rintro ⟨h1, h2, h3, h4, h5⟩
      by_cases e : ow s = a
      · rw [e, up_s] at h5; exact absurd h5 (by decide)
      · rw [up_n e] at h5; exact ⟨⟨h1, h2, h3, h4, h5⟩, e⟩
    · rintro ⟨⟨h1, h2, h3, h4, h5⟩, e⟩
      exact ⟨h1, h2, h3, h4, by rw [up_n e]; exact h5⟩
  have k1 := key (row i)
  by_cases e1 : abl bu ow st (row i) = true
  · have hr := abl_in _ e1
    have h29 : ¬ row i = 29 := by omega
    by_cases e3 : ow (row i) = a
    · have e2 : abl bu ow (up st a 1) (row i) = false := nt (fun q => (k1.mp q).2 e3)
      rw [e1, e2, decide_eq_true e3, decide_eq_true h29]; rfl
    · have e2 : abl bu ow (up st a 1) (row i) = true := k1.mpr ⟨e1, e3⟩
      rw [e1, e2, decide_eq_false e3, decide_eq_true h29]; rfl
  · have e2 : abl bu ow (up st a 1) (row i) = false := nt (fun q => e1 (k1.mp q).1)
    rw [nt e1, e2, Bool.false_and]
    show (0 : Int) = _
    omega
theorem hurt_z {what : Int} (h : st a = 1) : hurM (abl bu ow st) (abl bu ow (up st a 1)) ow day w row n crew a what = 0 := by
  rw [up_me h.symm]
  unfold hurM
  split <;> omega
end HU
