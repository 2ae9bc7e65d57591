section C92
variable {d : Nat} {f : iF} {g : iG} {Q : Option iv → iF → iG → Prop}
/-! ===== texts' own methods, as the small machine has them ===== -/
theorem pe_so {d μ : Nat} {vs : List Value} {T : x_T} (hm : Nat.ble 1000 μ = true) (hd : 9 ≤ d) : pe d μ vs T = kSO μ vs T := by
  obtain ⟨e, rfl⟩ : ∃ e, d = e + 1 := ⟨d - 1, by omega⟩
  unfold pe
  rw [x_P, if_pos hm, if_pos (Nat.ble_eq_true_of_le (by omega))]
theorem k_len1 (hd : 9 ≤ d) (k0 : Q (some (iI 70)) f g) : wq d 1000 [iX 1] f g Q := by
  intro _ hf
  refine ⟨some (iI 70), f, g, ?_, hf, fun w hw => ?_, k0⟩
  · rw [pe_so rfl hd]; rfl
  · cases hw; exact (by decide : inr 70)
set_option maxRecDepth 100000 in
theorem chr_70 : ∀ n < 70, x_in (Int32.ofInt (Int.ofNat n)) 70 = true ∧ (kX.2.2.2.1.getD 1 []).getD (Int32.ofInt (Int.ofNat n)).toNatClampNeg 0 = Int32.ofInt (kwd (Int.ofNat n)) ∧ inr (kwd (Int.ofNat n)) := by decide +kernel
theorem k_charAt {i : Int} (hd : 9 ≤ d) (hi : 0 ≤ i ∧ i < 70) (k0 : Q (some (iI (kwd i))) f g) : wq d 1001 [iX 1, iI i] f g Q := by
  intro _ hf
  obtain ⟨n, rfl⟩ : ∃ n : Nat, i = Int.ofNat n := ⟨i.toNat, by show i = ((i.toNat : Nat) : Int); omega⟩
  obtain ⟨h1, h2, h3⟩ := chr_70 n (by have : ((n : Nat) : Int) < 70 := hi.2; omega)
  refine ⟨some (iI (kwd (Int.ofNat n))), f, g, ?_, hf, fun w hw => ?_, k0⟩
  · rw [pe_so rfl hd]
    show (if x_in (Int32.ofInt (Int.ofNat n)) 70 = true then some (some (Value.int ((kX.2.2.2.1.getD 1 []).getD (Int32.ofInt (Int.ofNat n)).toNatClampNeg 0)), cT f g) else none) = _
    rw [if_pos h1, h2]; rfl
  · cases hw; exact h3
def ixO (c : Int) : Int32 := match (kX.2.2.2.1.getD 0 []).findIdx? (fun x => x == Int32.ofInt c) with
  | some k => Int32.ofNat k
  | none => -1
set_option maxRecDepth 100000 in
theorem idx_256 : ∀ n < 256, (mrk (Int.ofNat n) = true → 0 ≤ (ixO (Int.ofNat n)).toInt) ∧ (mrk (Int.ofNat n) = false → (ixO (Int.ofNat n)).toInt = -1) := by decide +kernel
theorem k_indexOf {c : Int} (hd : 9 ≤ d) (hc : 0 ≤ c ∧ c ≤ 255) (k0 : ∀ r : Int, (mrk c = true) → (0 ≤ r) → Q (some (iI r)) f g) (k1 : (mrk c = false) → Q (some (iI (-1))) f g) : wq d 1002 [iX 0, iI c] f g Q := by
  intro _ hf
  have h : (mrk c = true → 0 ≤ (ixO c).toInt) ∧ (mrk c = false → (ixO c).toInt = -1) := by
    have := idx_256 c.toNat (by omega)
    rw [show Int.ofNat c.toNat = c by show ((c.toNat : Nat) : Int) = c; omega] at this
    exact this
  have hr : inr (ixO c).toInt := ⟨Int32.le_toInt _, by have := Int32.toInt_lt (ixO c); omega⟩
  refine ⟨some (iI (ixO c).toInt), f, g, ?_, hf, fun w hw => ?_, ?_⟩
  · rw [pe_so rfl hd]
    show some (some (Value.int (ixO c)), cT f g) = some (some (Value.int (Int32.ofInt (ixO c).toInt)), cT f g)
    rw [Int32.ofInt_toInt]
  · cases hw; exact hr
  · cases e : mrk c with
    | true => exact k0 _ e (h.1 e)
    | false => rw [h.2 e]; exact k1 e
set_option maxRecDepth 100000 in
theorem i2c_256 : ∀ n < 256, b_i2c (Int.ofNat n) = Int.ofNat n := by decide +kernel
theorem i2c_b {c : Int} (hc : 0 ≤ c ∧ c ≤ 255) : b_i2c c = c := by
  have := i2c_256 c.toNat (by omega)
  rw [show Int.ofNat c.toNat = c by show ((c.toNat : Nat) : Int) = c; omega] at this
  exact this
/-- bits of what is asked -/
def askO (m a : Nat) : Bool := decide (0 ≤ b_or (Int.ofNat m) (b_shl 1 (Int.ofNat a))) && (decide (b_or (Int.ofNat m) (b_shl 1 (Int.ofNat a)) < 512) && (bit (b_or (Int.ofNat m) (b_shl 1 (Int.ofNat a))) (Int.ofNat a) && [0, 1, 2, 3, 4, 5, 6, 7, 8].all (fun k => !bit (Int.ofNat m) (Int.ofNat k) || bit (b_or (Int.ofNat m) (b_shl 1 (Int.ofNat a))) (Int.ofNat k))))
set_option maxRecDepth 100000 in
theorem ask_512 : ∀ m < 512, ∀ a < 9, askO m a = true := by decide +kernel
theorem ask_or {m a : Int} (hm : 0 ≤ m ∧ m < 512) (ha : 0 ≤ a ∧ a < 9) : 0 ≤ b_or m (b_shl 1 a) ∧ b_or m (b_shl 1 a) < 512 ∧ bit (b_or m (b_shl 1 a)) a = true ∧ ∀ k, 0 ≤ k → k < 9 → bit m k = true → bit (b_or m (b_shl 1 a)) k = true := by
  have h := ask_512 m.toNat (by omega) a.toNat (by omega)
  unfold askO at h
  rw [show Int.ofNat m.toNat = m by show ((m.toNat : Nat) : Int) = m; omega, show Int.ofNat a.toNat = a by show ((a.toNat : Nat) : Int) = a; omega] at h
  simp only [Bool.and_eq_true, decide_eq_true_eq] at h
  refine ⟨h.1, h.2.1, h.2.2.1, fun k h0 h1 hb => ?_⟩
  have q := List.all_eq_true.mp h.2.2.2 k.toNat (by
    have : k = 0 ∨ k = 1 ∨ k = 2 ∨ k = 3 ∨ k = 4 ∨ k = 5 ∨ k = 6 ∨ k = 7 ∨ k = 8 := by omega
    rcases this with e | e | e | e | e | e | e | e | e <;> subst e <;> decide)
  rw [show Int.ofNat k.toNat = k by show ((k.toNat : Nat) : Int) = k; omega, hb] at q
  simpa using q
end C92
