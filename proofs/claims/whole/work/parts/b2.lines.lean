/-! ===== lines out of code and ends ===== -/
def wlF (cn st : Int → Int) : Nat → Int → List Int
  | 0, _ => []
  | m + 1, l => cn l :: st (l + 1) :: wlF cn st m (l + 1)
theorem wlF_s {cn st : Int → Int} : ∀ (m : Nat) (l : Int), wlF cn st (m + 1) l = wlF cn st m l ++ [cn (l + m)] ++ [st (l + m + 1)]
  | 0, l => by show [cn l, st (l + 1)] = [] ++ [cn (l + ((0 : Nat) : Int))] ++ [st (l + ((0 : Nat) : Int) + 1)]; rw [show l + ((0 : Nat) : Int) = l by omega]; rfl
  | m + 1, l => by
    rw [wlF, wlF_s m (l + 1), wlF]
    rw [show l + 1 + (m : Int) = l + ((m + 1 : Nat) : Int) by omega]
    rfl
theorem wlN_F {cn st : Int → Int} : ∀ m : Nat, wlN cn st m = wlF cn st m 0
  | 0 => rfl
  | m + 1 => by rw [wlN, wlN_F m, wlF_s, show (0 : Int) + (m : Int) = m by omega]
theorem sl_lab {c : Int → Int} {a b : Int} (h : a ≤ b) : ((sl c a b).length : Int) = b - a := by unfold sl; rw [slN_len]; omega
theorem mk_law {c cn st : Int → Int} : ∀ (L : Lw) (l0 p n : Int), p ≤ n → sl c p n = flt1 L → st l0 = p → wlF cn st L.length l0 = pos1 p L → mkl (fun l => (sl c (st l) (cn l), sl c (cn l) (st (l + 1)))) L.length l0 = L ∧ ∀ l, l0 ≤ l → l < l0 + L.length → p ≤ st l ∧ st l ≤ cn l ∧ cn l ≤ st (l + 1) ∧ st (l + 1) ≤ n
  | [], l0, p, n, _, _, _, _ => ⟨rfl, fun l h0 h1 => by have h1 : l < l0 + ((0 : Nat) : Int) := h1; omega⟩
  | q :: L, l0, p, n, hpn, hC, hs, hW => by
    have hW : cn l0 :: st (l0 + 1) :: wlF cn st L.length (l0 + 1) = (p + q.1.length) :: (p + q.1.length + q.2.length) :: pos1 (p + q.1.length + q.2.length) L := hW
    obtain ⟨w1, hW⟩ := List.cons.inj hW
    obtain ⟨w2, w3⟩ := List.cons.inj hW
    have hC : sl c p n = q.1 ++ (q.2 ++ flt1 L) := hC
    have hl := sl_lab (c := c) hpn
    rw [hC, List.length_append, List.length_append] at hl
    rw [sl_split (b := p + q.1.length) (by omega) (by omega)] at hC
    obtain ⟨c1, hC⟩ := List.append_inj hC (by have := sl_lab (c := c) (a := p) (b := p + q.1.length) (by omega); omega)
    rw [sl_split (b := p + q.1.length + q.2.length) (by omega) (by omega)] at hC
    obtain ⟨c2, c3⟩ := List.append_inj hC (by have := sl_lab (c := c) (a := p + q.1.length) (b := p + q.1.length + q.2.length) (by omega); omega)
    obtain ⟨ih1, ih2⟩ := mk_law L (l0 + 1) (p + q.1.length + q.2.length) n (by omega) c3 w2 w3
    refine ⟨?_, fun l h0 h1 => ?_⟩
    · show (sl c (st l0) (cn l0), sl c (cn l0) (st (l0 + 1))) :: mkl _ L.length (l0 + 1) = q :: L
      rw [ih1, hs, w1, w2, c1, c2]
    · by_cases e : l = l0
      · rw [e, hs, w1, w2]; omega
      · have h1 : l < l0 + ((L.length + 1 : Nat) : Int) := h1
        have := ih2 l (by omega) (by omega)
        omega
theorem mem_mkl {pc : Int → List Int × List Int} : ∀ (m : Nat) (l0 l : Int), l0 ≤ l → l < l0 + m → pc l ∈ mkl pc m l0
  | 0, l0, l, h0, h1 => by omega
  | m + 1, l0, l, h0, h1 => by
    rw [mkl]
    by_cases e : l = l0
    · rw [e]; exact List.mem_cons_self
    · exact List.mem_cons_of_mem _ (mem_mkl m (l0 + 1) l (by omega) (by omega))
theorem law_ok {c cn st : Int → Int} {n k : Int} {L : Lw} (hn : 0 ≤ n) (hk : 0 ≤ k) (h0 : st 0 = 0) (hL : lwok L) (hC : sl c 0 n = flt1 L) (hW : wlI cn st k = pos1 0 L) : mkl (fun l => (sl c (st l) (cn l), sl c (cn l) (st (l + 1)))) k.toNat 0 = L ∧ ∀ l, 0 ≤ l → l < k → 0 ≤ st l ∧ st l < cn l ∧ cn l ≤ st (l + 1) ∧ st (l + 1) ≤ n ∧ lnok (sl c (st l) (cn l), sl c (cn l) (st (l + 1))) := by
  have e : k.toNat = L.length := by
    have h1 := wlI_len (cn := cn) (st := st) hk
    rw [hW, pos1_len] at h1
    omega
  unfold wlI at hW
  rw [wlN_F, e] at hW
  obtain ⟨h1, h2⟩ := mk_law L 0 0 n hn hC h0 hW
  rw [← e] at h1
  refine ⟨h1, fun l l0 l1 => ?_⟩
  have h3 := h2 l l0 (by omega)
  have hm := mem_mkl (pc := fun l => (sl c (st l) (cn l), sl c (cn l) (st (l + 1)))) k.toNat 0 l l0 (by omega)
  rw [h1] at hm
  have h4 := hL _ hm
  refine ⟨by omega, ?_, h3.2.2.1, h3.2.2.2, h4⟩
  obtain ⟨t, -, ht⟩ := h4.1
  by_cases e2 : st l < cn l
  · exact e2
  · exfalso
    have ht : tyl (sl c (st l) (cn l)) [] = some [t] := ht
    rw [sl_nil (by omega)] at ht
    cases ht
