/-! ===== remembered pays: the keys ===== -/
def n64 (x : Int64) : Nat := x.toBitVec.toNat
theorem n64_inj {x y : Int64} (h : n64 x = n64 y) : x = y := Int64.toBitVec_inj.1 (BitVec.eq_of_toNat_eq h)
theorem n64_toInt {z : Int64} (h : 0 ≤ z.toInt) : n64 z = z.toInt.toNat := by
  have e : z.toInt = z.toBitVec.toInt := rfl
  rw [e] at h ⊢
  rw [BitVec.toInt_eq_toNat_cond] at h ⊢
  have hl := z.toBitVec.isLt
  unfold n64
  split at h
  · rename_i h2
    rw [if_pos h2]; omega
  · omega
theorem n64_i2l {y : Int} (h0 : 0 ≤ y) (h1 : y ≤ 2147483647) : n64 (b_i2l y) = y.toNat := by
  have e : (b_i2l y).toInt = y := by
    unfold b_i2l
    rw [Int32.toInt_toInt64, ofI_toInt ⟨by omega, by omega⟩]
  rw [n64_toInt (by omega), e]
theorem n64_shor {x : Int64} {y s : Int} {n t : Nat} (ht : (((Int32.ofInt s).toInt64 &&& 63).toBitVec.smod 64).toNat = t) (hx : n64 x = n) (hn : n * 2 ^ t < 2 ^ 62) (hy : 0 ≤ y) (hy2 : y < 2 ^ t) (ht7 : t ≤ 7) : n64 (b_shlL x s ||| b_i2l y) = n * 2 ^ t + y.toNat := by
  have e1 : n64 (b_shlL x s) = n * 2 ^ t := by
    show (x.toBitVec <<< (((Int32.ofInt s).toInt64 &&& 63).toBitVec.smod 64)).toNat = _
    rw [BitVec.shiftLeft_eq', BitVec.toNat_shiftLeft, ht, Nat.shiftLeft_eq, show x.toBitVec.toNat = n from hx, Nat.mod_eq_of_lt (by omega)]
  have ht2 : (2 : Nat) ^ t ≤ 128 := Nat.pow_le_pow_right (by decide) ht7
  have hy3 : y.toNat < 2 ^ t := by
    have : ((2 ^ t : Nat) : Int) = (2 : Int) ^ t := by simp
    omega
  have e2 : n64 (b_i2l y) = y.toNat := n64_i2l hy (by
    have : ((2 ^ t : Nat) : Int) = (2 : Int) ^ t := by simp
    omega)
  show ((b_shlL x s).toBitVec ||| (b_i2l y).toBitVec).toNat = _
  rw [BitVec.toNat_or, show (b_shlL x s).toBitVec.toNat = n * 2 ^ t from e1, show (b_i2l y).toBitVec.toNat = y.toNat from e2, ← Nat.shiftLeft_eq, Nat.shiftLeft_add_eq_or_of_lt hy3]
theorem n64_ushr (x : Int64) : n64 (b_ushrL x 7) = n64 x / 128 := by
  show (x.toBitVec >>> (((Int32.ofInt 7).toInt64.toUInt64 &&& Int64.toUInt64 63) % 64).toBitVec).toNat = _
  rw [BitVec.ushiftRight_eq', BitVec.toNat_ushiftRight, show (((Int32.ofInt 7).toInt64.toUInt64 &&& Int64.toUInt64 63) % 64).toBitVec.toNat = 7 by decide, Nat.shiftRight_eq_div_pow]
  rfl
theorem n64_and (x : Int64) : n64 (x &&& Int64.ofInt 127) = n64 x % 128 := by
  show (x.toBitVec &&& (Int64.ofInt 127).toBitVec).toNat = _
  rw [BitVec.toNat_and, show (Int64.ofInt 127).toBitVec.toNat = 2 ^ 7 - 1 by decide, Nat.and_two_pow_sub_one_eq_mod]
  rfl
theorem l2i_n64 {x : Int64} (h : n64 x < 128) : b_l2i x = (n64 x : Int) := by
  have e : x.toInt = (n64 x : Int) := by
    show x.toBitVec.toInt = _
    rw [BitVec.toInt_eq_toNat_cond, if_pos (by unfold n64 at h; omega)]
    rfl
  unfold b_l2i
  rw [Int64.toInt_toInt32, e]
  unfold Int.bmod
  rw [show ((2 ^ 32 : Nat) : Int) = 4294967296 by decide]
  dsimp only
  rw [Int.emod_eq_of_lt (by omega) (by omega), if_pos (by omega)]
theorem lcmp_0 {x y : Int64} : (lg_cmp x y).toInt = 0 ↔ x = y := by
  unfold lg_cmp
  by_cases h : x = y
  · subst h
    rw [if_neg (Int64.lt_irrefl), if_pos rfl]
    exact ⟨fun _ => rfl, fun _ => rfl⟩
  · rw [if_neg h]
    refine ⟨fun e => ?_, fun e => absurd e h⟩
    split at e <;> exact absurd e (by decide)
/-- the key of facts -/
def keyL (fa : Int → Int) : Int64 := b_shlL (b_shlL (b_shlL (b_shlL (b_shlL (b_shlL (b_i2l (fa 6)) 5 ||| b_i2l (fa 0)) 6 ||| b_i2l (fa 2)) 6 ||| b_i2l (fa 3)) 4 ||| b_i2l (fa 5)) 5 ||| b_i2l (fa 7)) 1 ||| b_i2l (fa 8)
def kN (fa : Int → Int) : Nat := ((((((fa 6).toNat * 32 + (fa 0).toNat) * 64 + (fa 2).toNat) * 64 + (fa 3).toNat) * 16 + (fa 5).toNat) * 32 + (fa 7).toNat) * 2 + (fa 8).toNat
def fok (fa : Int → Int) : Prop := (0 ≤ fa 6 ∧ fa 6 ≤ 9999) ∧ (0 ≤ fa 0 ∧ fa 0 < 32) ∧ (0 ≤ fa 2 ∧ fa 2 < 64) ∧ (0 ≤ fa 3 ∧ fa 3 < 64) ∧ (0 ≤ fa 5 ∧ fa 5 < 16) ∧ (0 ≤ fa 7 ∧ fa 7 < 32) ∧ (0 ≤ fa 8 ∧ fa 8 < 2) ∧ fa 4 = b1 (vwl (fa 0))
theorem kN_lt {fa : Int → Int} (h : fok fa) : kN fa < 2 ^ 41 := by
  obtain ⟨h6, h0, h2, h3, h5, h7, h8, -⟩ := h
  unfold kN
  omega
theorem keyL_n {fa : Int → Int} (h : fok fa) : n64 (keyL fa) = kN fa := by
  obtain ⟨h6, h0, h2, h3, h5, h7, h8, -⟩ := h
  have e0 := n64_i2l h6.1 (by omega)
  have e1 := n64_shor (s := 5) (t := 5) (by decide) e0 (by omega) h0.1 (by omega) (by decide)
  have e2 := n64_shor (s := 6) (t := 6) (by decide) e1 (by omega) h2.1 (by omega) (by decide)
  have e3 := n64_shor (s := 6) (t := 6) (by decide) e2 (by omega) h3.1 (by omega) (by decide)
  have e4 := n64_shor (s := 4) (t := 4) (by decide) e3 (by omega) h5.1 (by omega) (by decide)
  have e5 := n64_shor (s := 5) (t := 5) (by decide) e4 (by omega) h7.1 (by omega) (by decide)
  have e6 := n64_shor (s := 1) (t := 1) (by decide) e5 (by omega) h8.1 (by omega) (by decide)
  unfold keyL kN
  rw [e6]
theorem peel2 {a b c e : Nat} (h : a * 2 + b = c * 2 + e) (h1 : b < 2) (h2 : e < 2) : a = c ∧ b = e := by omega
theorem peel16 {a b c e : Nat} (h : a * 16 + b = c * 16 + e) (h1 : b < 16) (h2 : e < 16) : a = c ∧ b = e := by omega
theorem peel32 {a b c e : Nat} (h : a * 32 + b = c * 32 + e) (h1 : b < 32) (h2 : e < 32) : a = c ∧ b = e := by omega
theorem peel64 {a b c e : Nat} (h : a * 64 + b = c * 64 + e) (h1 : b < 64) (h2 : e < 64) : a = c ∧ b = e := by omega
theorem toN_eq {x y : Int} (hx : 0 ≤ x) (hy : 0 ≤ y) (h : x.toNat = y.toNat) : x = y := by omega
theorem toN_lt {x : Int} {m : Nat} (hx : 0 ≤ x) (h : x < m) : x.toNat < m := by omega
theorem kN_inj {fa fb : Int → Int} (ha : fok fa) (hb : fok fb) (h1 : fa 1 = fb 1) (h : kN fa = kN fb) : ∀ k, 0 ≤ k → k ≤ 8 → fa k = fb k := by
  obtain ⟨a6, a0, a2, a3, a5, a7, a8, a4⟩ := ha
  obtain ⟨c6, c0, c2, c3, c5, c7, c8, c4⟩ := hb
  unfold kN at h
  obtain ⟨h, q8⟩ := peel2 h (toN_lt a8.1 a8.2) (toN_lt c8.1 c8.2)
  obtain ⟨h, q7⟩ := peel32 h (toN_lt a7.1 a7.2) (toN_lt c7.1 c7.2)
  obtain ⟨h, q5⟩ := peel16 h (toN_lt a5.1 a5.2) (toN_lt c5.1 c5.2)
  obtain ⟨h, q3⟩ := peel64 h (toN_lt a3.1 a3.2) (toN_lt c3.1 c3.2)
  obtain ⟨h, q2⟩ := peel64 h (toN_lt a2.1 a2.2) (toN_lt c2.1 c2.2)
  obtain ⟨q6, q0⟩ := peel32 h (toN_lt a0.1 a0.2) (toN_lt c0.1 c0.2)
  have q0 := toN_eq a0.1 c0.1 q0
  intro k hk hk8
  have : k = 0 ∨ k = 1 ∨ k = 2 ∨ k = 3 ∨ k = 4 ∨ k = 5 ∨ k = 6 ∨ k = 7 ∨ k = 8 := by clear h q8 q7 q5 q3 q2 q6 q0; omega
  rcases this with e | e | e | e | e | e | e | e | e <;> subst e
  · exact q0
  · exact h1
  · exact toN_eq a2.1 c2.1 q2
  · exact toN_eq a3.1 c3.1 q3
  · rw [a4, c4, q0]
  · exact toN_eq a5.1 c5.1 q5
  · exact toN_eq a6.1 c6.1 q6
  · exact toN_eq a7.1 c7.1 q7
  · exact toN_eq a8.1 c8.1 q8
theorem payM_cg {fa fb : Int → Int} (h : ∀ k, 0 ≤ k → k ≤ 8 → fa k = fb k) : ∀ w : Lw, payM fa w = payM fb w
  | [] => rfl
  | q :: r => by rw [payM, payM, ev_cg h, ev_cg h, payM_cg h r]
/-- pays that are remembered are right -/
def mOK (w : Lw) (g : iG) : Prop := ∀ c : Int, 0 ≤ c → c < 384 → n64 (g 59 c) = 2 ^ 64 - 1 ∨ ∃ fa, fok fa ∧ fa 1 = c / 32 ∧ n64 (g 59 c) = kN fa * 128 + (payM fa w).toNat
theorem mOK_hit {w : Lw} {g : iG} {fa : Int → Int} {c : Int} (h : mOK w g) (h0 : 0 ≤ c) (h1 : c < 384) (hf : fok fa) (hc : fa 1 = c / 32) (he : b_ushrL (g 59 c) 7 = keyL fa) : b_l2i (g 59 c &&& Int64.ofInt 127) = payM fa w := by
  have e1 : n64 (g 59 c) / 128 = kN fa := by rw [← n64_ushr, he, keyL_n hf]
  have hl := kN_lt hf
  rcases h c h0 h1 with h2 | ⟨fb, hb1, hb2, hb3⟩
  · rw [h2] at e1; omega
  · have hp := payM_r fb w
    have e2 : kN fb = kN fa := by rw [hb3] at e1; omega
    have e3 := payM_cg (kN_inj hb1 hf (hb2.trans hc.symm) e2) w
    have e4 : n64 (g 59 c &&& Int64.ofInt 127) = (payM fb w).toNat := by rw [n64_and, hb3]; omega
    rw [l2i_n64 (by omega), e4, ← e3]
    omega
theorem mOK_put {w : Lw} {g : iG} {fa : Int → Int} {c : Int} (h : mOK w g) (h0 : 0 ≤ c) (h1 : c < 384) (hf : fok fa) (hc : fa 1 = c / 32) : mOK w (wg g 59 c (b_shlL (keyL fa) 7 ||| b_i2l (payM fa w))) ∧ b_l2i (wg g 59 c (b_shlL (keyL fa) 7 ||| b_i2l (payM fa w)) 59 c &&& Int64.ofInt 127) = payM fa w := by
  have hl := kN_lt hf
  have hp := payM_r fa w
  have e := n64_shor (s := 7) (t := 7) (y := payM fa w) (by decide) (keyL_n hf) (by omega) hp.1 (by omega) (by decide)
  have e0 : wg g 59 c (b_shlL (keyL fa) 7 ||| b_i2l (payM fa w)) 59 c = b_shlL (keyL fa) 7 ||| b_i2l (payM fa w) := by unfold wg; rw [if_pos ⟨rfl, rfl⟩]
  refine ⟨fun k k0 k1 => ?_, ?_⟩
  · by_cases ek : k = c
    · subst ek
      rw [e0]
      exact Or.inr ⟨fa, hf, hc, e⟩
    · have : wg g 59 c (b_shlL (keyL fa) 7 ||| b_i2l (payM fa w)) 59 k = g 59 k := by unfold wg; rw [if_neg (fun h => ek h.2)]
      rw [this]
      exact h k k0 k1
  · rw [e0]
    have e4 : n64 ((b_shlL (keyL fa) 7 ||| b_i2l (payM fa w)) &&& Int64.ofInt 127) = (payM fa w).toNat := by rw [n64_and, e]; omega
    rw [l2i_n64 (by omega), e4]
    omega
/-- all that the law asks is marked -/
def lwask (m : Int) (w : Lw) : Prop := ∀ q ∈ w, ∀ c ∈ q.1 ++ q.2, -9 ≤ c → c < 0 → bit m (-1 - c) = true
theorem ev_cg2 {fa fb : Int → Int} : ∀ (l s : List Int), (∀ c ∈ l, -9 ≤ c → c < 0 → fa (-1 - c) = fb (-1 - c)) → ev fa l s = ev fb l s := by
  intro l
  induction l with
  | nil => intro s _; rfl
  | cons c l ih =>
    intro s h
    have e : stp fa c s = stp fb c s := by
      by_cases h0 : 0 ≤ c
      · rw [stp_num h0, stp_num h0]
      · by_cases h9 : -9 ≤ c
        · rw [stp_ask (by omega) h9, stp_ask (by omega) h9, h c (List.mem_cons_self ..) h9 (by omega)]
        · unfold stp
          rw [if_neg h0, if_neg h9, if_neg h0, if_neg h9]
    show ev fa l (stp fa c s) = ev fb l (stp fb c s)
    rw [e, ih _ (fun c hc => h c (List.mem_cons_of_mem _ hc))]
theorem payM_ask {fa : Int → Int} {m : Int} : ∀ w : Lw, lwask m w → payM (fcC m fa) w = payM fa w
  | [], _ => rfl
  | q :: r, h => by
    have hq : ∀ c ∈ q.1 ++ q.2, -9 ≤ c → c < 0 → fcC m fa (-1 - c) = fa (-1 - c) := fun c hc h1 h2 => by
      unfold fcC
      rw [if_neg (fun e => by rw [h q (List.mem_cons_self ..) c hc h1 h2] at e; exact absurd e.2 (by decide))]
    rw [payM, payM, ev_cg2 q.1 [] (fun c hc => hq c (List.mem_append_left _ hc)), ev_cg2 q.2 [] (fun c hc => hq c (List.mem_append_right _ hc)), payM_ask r (fun q hq => h q (List.mem_cons_of_mem _ hq))]
