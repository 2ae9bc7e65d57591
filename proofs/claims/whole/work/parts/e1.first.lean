/-! ===== the first state keeps the invariant ===== -/
noncomputable def f0 : iF := fun c k => if c < 200 then (zT.2.1 c k.toNat).toInt else (zT.2.1 (c % 200) (c / 200 - 1)).toInt
noncomputable def g0 : iG := fun c k => zT.2.2 c k.toNat
theorem f0_a {c : Nat} {k : Int} (h : c < 200) : f0 c k = (zT.2.1 c k.toNat).toInt := by unfold f0; rw [if_pos h]
theorem f0_f {c k : Nat} (h : c < 200) : f0 (fv c k) 0 = (zT.2.1 c k).toInt := by
  unfold f0 fv
  rw [if_neg (by omega), show (200 * (k + 1) + c) % 200 = c by omega, show (200 * (k + 1) + c) / 200 - 1 = k by omega]
theorem f0_T : cT f0 g0 = zT := by
  have e1 : cF f0 = zT.2.1 := by
    funext c k
    unfold cF
    cases e : kS[c]? with
    | none =>
      have hc : kS.length ≤ c := by
        rcases Nat.lt_or_ge c kS.length with h | h
        · rw [List.getElem?_eq_getElem h] at e; cases e
        · exact h
      exact (zT_z c k (by rw [z_C3]; exact hc)).symm
    | some s =>
      have hc := z_lt e
      have hc : c < 106 := hc
      cases s with
      | inl q => show Int32.ofInt (f0 c (k : Int)) = _; rw [f0_a (by omega), Int.toNat_natCast, Int32.ofInt_toInt]
      | inr q => show Int32.ofInt (f0 (fv c k) 0) = _; rw [f0_f (by omega), Int32.ofInt_toInt]
  have e2 : cG g0 = zT.2.2 := by
    funext c k
    show zT.2.2 c ((k : Int)).toNat = _
    rw [Int.toNat_natCast]
  unfold cT
  rw [e1, e2, ← z_C3]
theorem f0_R : InR f0 := by
  intro c k
  have key : ∀ x : Int32, inr x.toInt := fun x => ⟨Int32.le_toInt x, by have := Int32.toInt_lt x; omega⟩
  unfold f0
  split
  · exact key _
  · exact key _
def zA0 : List (Nat × Nat) := [(2, 8), (3, 8), (4, 8), (5, 8), (8, 29), (9, 29), (17, 1), (44, 1), (80, 40), (82, 8), (83, 8), (84, 8), (85, 8), (86, 29), (87, 29), (97, 400), (98, 400)]
def zF0 : List (Nat × Nat) := [(1, 0), (1, 13), (1, 14), (1, 15), (1, 16), (1, 17), (10, 1), (12, 2), (15, 4), (15, 5), (39, 1), (41, 1), (48, 5), (0, 2), (62, 0), (62, 11), (76, 0), (79, 3), (79, 4), (79, 11), (79, 12), (79, 13), (79, 17), (79, 21), (79, 27), (79, 39), (79, 50)]
set_option maxRecDepth 100000 in
theorem z_k1 : zA0.all (fun p => (List.range p.2).all (fun k => decide (zT.2.1 p.1 k = 0))) = true := by decide +kernel
set_option maxRecDepth 100000 in
theorem z_k2 : zF0.all (fun p => decide (zT.2.1 p.1 p.2 = 0)) = true := by decide +kernel
set_option maxRecDepth 100000 in
theorem z_k3 : ((List.range 29).all (fun k => decide (zT.2.1 7 k = -1)) && (decide (zT.2.1 41 2 = -1) && (decide (zT.2.1 79 40 = -1) && decide (zT.2.1 72 0 = -1)))) = true := by decide +kernel
set_option maxRecDepth 100000 in
theorem z_k4 : (List.range 69).all (fun k => decide ((zT.2.1 93 k).toInt = wdL.getD k 0)) = true := by decide +kernel
set_option maxRecDepth 100000 in
theorem z_k5 : (List.range 384).all (fun k => decide (n64 (zT.2.2 59 k) = 2 ^ 64 - 1)) = true := by decide +kernel
theorem z0 {c n : Nat} {k : Int} (hm : (c, n) ∈ zA0) (hc : c < 200) (h0 : 0 ≤ k) (h1 : k < n) : f0 c k = 0 := by
  have q := List.all_eq_true.mp (List.all_eq_true.mp z_k1 _ hm) k.toNat (List.mem_range.mpr (by show k.toNat < n; omega))
  rw [f0_a hc, of_decide_eq_true q]; rfl
theorem zf {c k : Nat} (hm : (c, k) ∈ zF0) (hc : c < 200) : f0 (fv c k) 0 = 0 := by
  have q := List.all_eq_true.mp z_k2 _ hm
  rw [f0_f hc, of_decide_eq_true q]; rfl
theorem z7 {k : Int} (h0 : 0 ≤ k) (h1 : k < 29) : f0 7 k = -1 := by
  have q := z_k3
  simp only [Bool.and_eq_true] at q
  have q1 := List.all_eq_true.mp q.1 k.toNat (List.mem_range.mpr (by omega))
  rw [f0_a (by decide), of_decide_eq_true q1]; rfl
theorem zm {c k : Nat} (h : (c = 41 ∧ k = 2) ∨ (c = 79 ∧ k = 40) ∨ (c = 72 ∧ k = 0)) : f0 (fv c k) 0 = -1 := by
  have q := z_k3
  simp only [Bool.and_eq_true] at q
  rw [f0_f (by omega)]
  rcases h with ⟨rfl, rfl⟩ | ⟨rfl, rfl⟩ | ⟨rfl, rfl⟩
  · rw [of_decide_eq_true q.2.1]; rfl
  · rw [of_decide_eq_true q.2.2.1]; rfl
  · rw [of_decide_eq_true q.2.2.2]; rfl
set_option maxRecDepth 100000 in
theorem f0_I : Inv f0 g0 := by
  have e10 : f0 (fv 1 0) 0 = 0 := zf (by decide) (by decide)
  have eln : f0 (fv 15 4) 0 = 0 := zf (by decide) (by decide)
  have elm : f0 (fv 79 27) 0 = 0 := zf (by decide) (by decide)
  have hlc : lwC f0 = [] := by unfold lwC; rw [eln]; rfl
  have hlr : lwR f0 = [] := by unfold lwR; rw [elm]; rfl
  have hF : ∀ c k : Nat, (c, k) ∈ zF0 → c < 200 → f0 (fv c k) 0 = 0 := fun c k h h2 => zf h h2
  refine ⟨⟨?_, fun a a0 a1 => ?_, fun a a0 a1 => ?_, fun a a0 a1 => ?_, fun a a0 a1 => ?_, fun a a0 a1 => ?_, fun s s0 s1 => ?_, fun s s0 s1 => ?_, fun s s0 s1 => ?_, ?_, ?_, ?_, ?_, ?_, ?_, ?_⟩, ?_, ?_, ?_, ?_, ?_, ?_, ?_, ?_, ?_, ?_⟩
  · rw [e10, zf (c := 79) (k := 4) (by decide) (by decide)]; exact ⟨rfl, by decide, by decide⟩
  · rw [z0 (n := 8) (c := 2) (by decide) (by decide) a0 a1, z0 (n := 40) (c := 80) (by decide) (by decide) a0 (by omega)]; decide
  · rw [z0 (n := 8) (c := 3) (by decide) (by decide) a0 a1, z0 (n := 8) (c := 82) (by decide) (by decide) a0 a1]; decide
  · rw [z0 (n := 8) (c := 4) (by decide) (by decide) a0 a1, z0 (n := 8) (c := 83) (by decide) (by decide) a0 a1]; exact ⟨rfl, Or.inl rfl, fun _ => rfl⟩
  · rw [z0 (n := 8) (c := 5) (by decide) (by decide) a0 a1, z0 (n := 8) (c := 84) (by decide) (by decide) a0 a1]; exact ⟨rfl, fun _ => rfl⟩
  · rw [e10, z0 (n := 8) (c := 85) (by decide) (by decide) a0 a1]; exact ⟨fun h => by omega, by decide, fun _ => rfl⟩
  · rw [e10, z7 s0 s1, z0 (n := 29) (c := 86) (by decide) (by decide) s0 s1]; decide
  · rw [z0 (n := 29) (c := 8) (by decide) (by decide) s0 s1, z0 (n := 29) (c := 87) (by decide) (by decide) s0 s1]; exact ⟨rfl, Or.inl rfl⟩
  · rw [z0 (n := 29) (c := 9) (by decide) (by decide) s0 s1, z0 (n := 40) (c := 80) (by decide) (by decide) (by omega) (by omega)]
  · rw [hF 1 13 (by decide) (by decide), hF 1 14 (by decide) (by decide), hF 1 17 (by decide) (by decide)]
    exact ⟨(z0 (n := 40) (c := 80) (by decide) (by decide) (by decide) (by decide)).symm, (z0 (n := 40) (c := 80) (by decide) (by decide) (by decide) (by decide)).symm, (z0 (n := 40) (c := 80) (by decide) (by decide) (by decide) (by decide)).symm, by decide, by decide⟩
  · rw [hF 1 15 (by decide) (by decide), hF 79 12 (by decide) (by decide)]; exact ⟨rfl, by decide, by decide⟩
  · rw [hF 1 16 (by decide) (by decide), hF 79 11 (by decide) (by decide)]; exact ⟨rfl, by decide, by decide⟩
  · rw [hF 10 1 (by decide) (by decide), hF 79 13 (by decide) (by decide)]; exact ⟨rfl, by decide, fun i i0 i1 => by omega⟩
  · rw [hF 12 2 (by decide) (by decide), hF 79 17 (by decide) (by decide)]; exact ⟨rfl, by decide, fun i i0 i1 => by omega⟩
  · rw [hF 1 13 (by decide) (by decide)]; exact fun k k0 k1 => by omega
  · refine ⟨⟨by rw [eln]; decide, fun l l0 l1 => by rw [eln] at l1; omega⟩, ⟨by rw [elm]; decide, fun l l0 l1 => by rw [elm] at l1; omega, fun k k0 k1 => ?_⟩, by rw [hlc, hlr], by rw [hlc]; exact fun q hq => (by cases hq), by rw [eln, elm]⟩
    rw [z0 (n := 400) (c := 97) (by decide) (by decide) k0 k1, z0 (n := 400) (c := 98) (by decide) (by decide) k0 k1]
    exact Or.inl ⟨rfl, by decide, by decide⟩
  · rw [hF 39 1 (by decide) (by decide), hF 79 21 (by decide) (by decide)]; exact ⟨rfl, ⟨by decide, fun k k0 k1 => by omega⟩, fun k k0 k1 => by omega⟩
  · rw [hF 41 1 (by decide) (by decide), hF 79 39 (by decide) (by decide), zm (c := 41) (k := 2) (by decide), zm (c := 79) (k := 40) (by decide)]; exact ⟨rfl, rfl⟩
  · rw [hF 48 5 (by decide) (by decide), hF 79 3 (by decide) (by decide)]; exact ⟨rfl, by decide, fun r r0 r1 => by omega⟩
  · refine ⟨?_, ?_, ?_⟩
    · rw [hF 0 2 (by decide) (by decide), hF 79 50 (by decide) (by decide)]
    · exact Or.inl (hF 0 2 (by decide) (by decide))
    · intro h; rw [hF 0 2 (by decide) (by decide)] at h; exact absurd h (by decide)
  · exact ⟨fun h => absurd (hF 62 0 (by decide) (by decide)) h, by rw [hF 62 11 (by decide) (by decide)]; decide, by rw [hF 62 11 (by decide) (by decide)]; decide⟩
  · intro h; rw [zm (c := 72) (k := 0) (by decide)] at h; exact absurd h (by decide)
  · exact fun h => absurd (hF 76 0 (by decide) (by decide)) h
  · intro c c0 c1
    have q := List.all_eq_true.mp z_k5 c.toNat (List.mem_range.mpr (by omega))
    exact Or.inl (of_decide_eq_true q)
  · intro k k0 k1
    have q := List.all_eq_true.mp z_k4 k.toNat (List.mem_range.mpr (by omega))
    rw [f0_a (by decide), of_decide_eq_true q]; rfl
  · exact z0 (n := 1) (c := 44) (by decide) (by decide) (by decide) (by decide)
