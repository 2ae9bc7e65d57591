section C38
variable {d : Nat} {f : iF} {g : iG} {Q : Option iv → iF → iG → Prop}
/-! ===== the class: units and sums of a text ===== -/
def askB (c : Int → Int) (sz m : Int) : Prop := (0 ≤ m ∧ m < 512) ∧ ∀ k, 0 ≤ k → k < sz → -9 ≤ c k → c k < 0 → bit m (-1 - c k) = true
def kdC (f : iF) : Int → Int := kdP (f 40) (f (fv 39 1) 0)
def nxC (f : iF) : Int → Int := nxP (f 40) (f (fv 39 1) 0)
/-- a text is being read -/
def rdC (f : iF) : Prop := tpB (f 40) (f (fv 39 1) 0) ∧ (∃ N, tkC (f 46) (f 47) (f 40) (f (fv 39 1) 0) N ∧ 0 ≤ f (fv 41 6) 0 ∧ f (fv 41 6) 0 ≤ N) ∧ f (fv 41 7) 0 = f 46 (f (fv 41 6) 0) ∧ 0 ≤ f (fv 42 3) 0 ∧ askB (f 43) (f (fv 42 3) 0) (f (fv 42 5) 0)
theorem rdC_k {f : iF} (h : rdC f) : f (fv 41 7) 0 = kdC f (f 47 (f (fv 41 6) 0)) := by
  obtain ⟨h1, ⟨N, h2, h3, h4⟩, h5, h6⟩ := h
  rw [h5]
  exact (h2.2.2.2.1 _ h3 h4).1
theorem rdC_b {f : iF} (h : rdC f) : 0 ≤ f 47 (f (fv 41 6) 0) ∧ f 47 (f (fv 41 6) 0) ≤ f (fv 39 1) 0 ∧ f (fv 39 1) 0 ≤ 400 ∧ 0 ≤ f (fv 41 6) 0 ∧ f (fv 41 6) 0 ≤ 400 ∧ 0 ≤ f (fv 42 3) 0 := by
  obtain ⟨h1, ⟨N, h2, h3, h4⟩, h5, h6⟩ := h
  have := (h2.2.2.2.1 _ h3 h4).2
  exact ⟨this.1, this.2, h1.1.2, h3, by have := h2.2.1; omega, h6.1⟩
theorem rdC_r {f : iF} (h : rdC f) (hk : ¬ f (fv 41 7) 0 = 0) : f 47 (f (fv 41 6) 0) < 400 ∧ f (fv 41 6) 0 < 400 := by
  have hb := rdC_b h
  have h0 := kdP_0 (t := f 40) (len := f (fv 39 1) 0) (a := f 47 (f (fv 41 6) 0)) (by rw [rdC_k h] at hk; exact hk)
  obtain ⟨h1, ⟨N, h2, h3, h4⟩, h5, h6⟩ := h
  have : ¬ f (fv 41 6) 0 = N := by
    intro e
    rw [h5, e] at hk
    exact hk h2.2.2.2.2.2
  have := h2.2.1
  omega
theorem rdC_st {f : iF} (h : rdC f) (hk : ¬ f (fv 41 7) 0 = 0) : f 47 (f (fv 41 6) 0 + 1) = nxC f (f 47 (f (fv 41 6) 0)) ∧ f 47 (f (fv 41 6) 0) < nxC f (f 47 (f (fv 41 6) 0)) ∧ ∃ N, tkC (f 46) (f 47) (f 40) (f (fv 39 1) 0) N ∧ 0 ≤ f (fv 41 6) 0 + 1 ∧ f (fv 41 6) 0 + 1 ≤ N := by
  have hb := rdC_b h
  have hn := nxP_s (t := f 40) (len := f (fv 39 1) 0) (a := f 47 (f (fv 41 6) 0)) (by rw [rdC_k h] at hk; exact hk)
  obtain ⟨h1, ⟨N, h2, h3, h4⟩, h5, h6⟩ := h
  have hN : ¬ f (fv 41 6) 0 = N := by
    intro e
    rw [h5, e] at hk
    exact hk h2.2.2.2.2.2
  exact ⟨(h2.2.2.2.2.1 _ h3 (by omega)).2, hn.1, N, h2, by omega, by omega⟩
/-- what a unit is: a number, or what is asked -/
def isu (k : Int) : Prop := 1000 ≤ k ∨ (8 ≤ k ∧ k ≤ 16)
def unt (k : Int) : Int := if 1000 ≤ k then k - 1000 else 7 - k
theorem unt_n {k : Int} (h : 1000 ≤ k) : unt k = k - 1000 := by unfold unt; rw [if_pos h]
theorem unt_a {k : Int} (h : k ≤ 16) : unt k = 7 - k := by unfold unt; rw [if_neg (by omega)]
theorem sl_wv {c : Int → Int} {n v : Int} (h : 0 ≤ n) : sl (up c n v) 0 (n + 1) = sl c 0 n ++ [v] := by
  rw [sl_s h, up_s]
  congr 1
  exact sl_congr (fun k k0 k1 => up_n (by omega))
theorem askB_s {c : Int → Int} {n v m : Int} (h : askB c n m) (hv : -9 ≤ v → v < 0 → bit m (-1 - v) = true) : askB (up c n v) (n + 1) m := by
  refine ⟨h.1, fun k k0 k1 => ?_⟩
  by_cases e : k = n
  · rw [e, up_s]; exact hv
  · rw [up_n e]; exact h.2 k k0 (by omega)
theorem askB_o {c : Int → Int} {n m a : Int} (h : askB c n m) (ha : 0 ≤ a ∧ a < 9) : askB c n (b_or m (b_shl 1 a)) ∧ bit (b_or m (b_shl 1 a)) a = true := by
  obtain ⟨q1, q2, q3, q4⟩ := ask_or h.1 ha
  exact ⟨⟨⟨q1, q2⟩, fun k k0 k1 k2 k3 => q4 _ (by omega) (by omega) (h.2 k k0 k1 k2 k3)⟩, q3⟩
section JK
variable {kd nx : Int → Int} {x a : Int} {K C W : List Int}
/-- what a sum waits for -/
def jk (j : Int) (K : List Int) : List Int := if j = 0 then K else if j = -10 then 2 :: K else 3 :: K
theorem jk_h {j : Int} (hx : 20 ≤ x ∨ (6 ≤ x ∧ x ≤ 8)) : ∃ y L, jk j (x :: K) = y :: L ∧ ¬ y = 4 ∧ ¬ y = 5 := by
  unfold jk
  split
  · exact ⟨x, K, rfl, by omega, by omega⟩
  · split
    · exact ⟨2, x :: K, rfl, by decide, by decide⟩
    · exact ⟨3, x :: K, rfl, by decide, by decide⟩
theorem j_u (h : isu (kd a)) : Rch kd nx (1, K, a, C, W) (2, K, nx a, C ++ [unt (kd a)], W) := by
  by_cases e : 1000 ≤ kd a
  · rw [unt_n e]; exact q_1n e
  · have e2 : 8 ≤ kd a ∧ kd a ≤ 16 := by unfold isu at h; omega
    rw [unt_a e2.2]; exact q_1a e2
theorem j_uf (h : ¬ isu (kd a)) : flt kd nx (1, K, a, C, W) 1 a := flt_0 (q_1f (fun e => h (Or.inl e)) (fun e => h (Or.inr e)))
theorem j_m {j b : Int} (hx : 20 ≤ x ∨ (6 ≤ x ∧ x ≤ 8)) (h : kd a = 42) (hb : b = nx a) : Rch kd nx (2, jk j (x :: K), a, C, W) (1, 4 :: jk j (x :: K), b, C, W) := by
  obtain ⟨y, L, e, h1, h2⟩ := jk_h (j := j) (K := K) hx
  rw [e, hb]; exact q_2m h1 h2 h
theorem j_p {j b : Int} (hx : 20 ≤ x ∨ (6 ≤ x ∧ x ≤ 8)) (h : kd a = 47) (hb : b = nx a) : Rch kd nx (2, jk j (x :: K), a, C, W) (3, 5 :: jk j (x :: K), b, C, W) := by
  obtain ⟨y, L, e, h1, h2⟩ := jk_h (j := j) (K := K) hx
  rw [e, hb]; exact q_2p h1 h2 h
/-- a product ends -/
theorem j_e {j : Int} (hx : 20 ≤ x ∨ (6 ≤ x ∧ x ≤ 8)) (h : ¬ kd a = 42) (h2 : ¬ kd a = 47) (hj : j = -10 ∨ j = -11) : Rch kd nx (2, jk j (x :: K), a, C, W) (5, x :: K, a, C ++ [j], W) := by
  rcases hj with e | e <;> subst e
  · exact r_t (q_2e (x := 2) (by decide) (by decide) h h2) q_4p
  · exact r_t (q_2e (x := 3) (by decide) (by decide) h h2) q_4m
theorem j_e0 (hx : 20 ≤ x ∨ (6 ≤ x ∧ x ≤ 8)) (h : ¬ kd a = 42) (h2 : ¬ kd a = 47) : Rch kd nx (2, jk 0 (x :: K), a, C, W) (5, x :: K, a, C, W) := r_t (q_2e (by omega) (by omega) h h2) (q_4e (by omega) (by omega))
theorem j_j {j b : Int} (h : (kd a = 43 ∧ j = -10) ∨ (kd a = 45 ∧ j = -11)) (hb : b = nx a) : Rch kd nx (5, K, a, C, W) (1, jk j K, b, C, W) := by
  rcases h with ⟨h, e⟩ | ⟨h, e⟩ <;> subst e <;> subst hb
  · exact q_5p h
  · exact q_5m h
end JK
set_option maxRecDepth 100000 in
set_option maxHeartbeats 4000000 in
theorem k_wipe (hd : 1 ≤ d) (k0 : Q none (wv (wv (wv f (fv 42 3) 0 0) (fv 42 4) 0 0) (fv 42 5) 0 0) g) : wq d 111 [iR 42] f g Q := by
  obtain ⟨d, rfl⟩ : ∃ e, d = e + 1 := ⟨d - 1, by omega⟩
  refine i_meth0 rfl rfl (fun O J hO => ?_)
  exact k0
set_option maxRecDepth 100000 in
set_option maxHeartbeats 4000000 in
theorem k_emit {v9 : Int} (hd : 1 ≤ d) (hrd : (rdC f)) (hsz : (f (fv 42 3) 0) < 400) (hv : -9 ≤ v9 → v9 < 0 → bit (f (fv 42 5) 0) (-1 - v9) = true) (k0 : ∀ f1 : iF, ( (rdC (mx [43, fv 42 3] f f1))) → ((sl (f1 43) 0 (f1 (fv 42 3) 0)) = (sl (f 43) 0 (f (fv 42 3) 0)) ++ [v9]) → (f1 (fv 42 3) 0 = (f (fv 42 3) 0) + 1) → Q none (mx [43, fv 42 3] f f1) g) : wq d 112 [iR 42, iI v9] f g Q := by
  obtain ⟨d, rfl⟩ : ∃ e, d = e + 1 := ⟨d - 1, by omega⟩
  refine i_meth0 rfl rfl (fun O J hO => ?_)
  have hb := rdC_b hrd
  refine ⟨fun h => absurd (show f (fv 42 3) 0 < 0 from h) (by omega), fun _ => ?_⟩
  refine ⟨fun _ => ?_, fun h => absurd (show f (fv 42 3) 0 < 400 from by omega) h⟩
  refine ⟨show 0 ≤ (f (fv 42 3) 0 : Int) ∧ f (fv 42 3) 0 < 400 from by omega, ?_⟩
  refine Or.inl ⟨show inr ((f (fv 42 3) 0) + 1) from by constructor <;> omega, ?_⟩
  have hk := k0 (wv (wv f 43 (f (fv 42 3) 0) v9) (fv 42 3) 0 ((f (fv 42 3) 0) + 1)) (by obtain ⟨h1, h2, h3, h4, h5⟩ := hrd; exact ⟨h1, h2, h3, by show 0 ≤ f (fv 42 3) 0 + 1; omega, by show askB (wv f 43 (f (fv 42 3) 0) v9 43) (f (fv 42 3) 0 + 1) (f (fv 42 5) 0); rw [wv_up]; exact askB_s h5 hv⟩) (by show sl (wv f 43 (f (fv 42 3) 0) v9 43) 0 (f (fv 42 3) 0 + 1) = _; rw [wv_up]; exact sl_wv hb.2.2.2.2.2) rfl
  rw [show mx [43, fv 42 3] f (wv (wv f 43 (f (fv 42 3) 0) v9) (fv 42 3) 0 ((f (fv 42 3) 0) + 1)) = (wv (wv f 43 (f (fv 42 3) 0) v9) (fv 42 3) 0 ((f (fv 42 3) 0) + 1)) from ((mx_wv rfl (mx_wv rfl mx_rf))).symm] at hk
  exact hk
set_option maxRecDepth 100000 in
set_option maxHeartbeats 4000000 in
theorem k_step (hd : 1 ≤ d) (hrd : (rdC f)) (hk : ¬ (f (fv 41 7) 0) = 0) (k0 : ∀ f1 : iF, ( (rdC (mx [fv 41 6, fv 41 7] f f1))) → (((f 47 (f1 (fv 41 6) 0))) = (nxC f) ((f 47 (f (fv 41 6) 0)))) → (((f 47 (f (fv 41 6) 0))) < (nxC f) ((f 47 (f (fv 41 6) 0)))) → Q none (mx [fv 41 6, fv 41 7] f f1) g) : wq d 129 [iR 41] f g Q := by
  obtain ⟨d, rfl⟩ : ∃ e, d = e + 1 := ⟨d - 1, by omega⟩
  refine i_meth0 rfl rfl (fun O J hO => ?_)
  have hb := rdC_b hrd
  have hr := rdC_r hrd hk
  have hs := rdC_st hrd hk
  refine ⟨fun h => absurd (show f (fv 41 6) 0 < 0 from h) (by omega), fun _ => ?_⟩
  refine ⟨fun _ => ?_, fun h => absurd (show f (fv 41 6) 0 < 400 from by omega) h⟩
  refine ⟨fun h => absurd (show f (fv 41 7) 0 = 0 from h) (by exact hk), fun _ => ?_⟩
  refine Or.inl ⟨show inr ((f (fv 41 6) 0) + 1) from by constructor <;> omega, ?_⟩
  refine ⟨show 0 ≤ (((f (fv 41 6) 0) + 1) : Int) ∧ ((f (fv 41 6) 0) + 1) < 401 from by omega, ?_⟩
  have hk := k0 (wv (wv f (fv 41 6) 0 ((f (fv 41 6) 0) + 1)) (fv 41 7) 0 (f 46 ((f (fv 41 6) 0) + 1))) (by obtain ⟨h1, h2, h3, h4, h5⟩ := hrd; exact ⟨h1, hs.2.2, rfl, h4, h5⟩) hs.1 hs.2.1
  rw [show mx [fv 41 6, fv 41 7] f (wv (wv f (fv 41 6) 0 ((f (fv 41 6) 0) + 1)) (fv 41 7) 0 (f 46 ((f (fv 41 6) 0) + 1))) = (wv (wv f (fv 41 6) 0 ((f (fv 41 6) 0) + 1)) (fv 41 7) 0 (f 46 ((f (fv 41 6) 0) + 1))) from ((mx_wv rfl (mx_wv rfl mx_rf))).symm] at hk
  exact hk
set_option maxRecDepth 100000 in
set_option maxHeartbeats 4000000 in
theorem k_fail {w9 : Int} (hd : 1 ≤ d) (hrd : (rdC f)) (k0 : Q (some (iI 0)) (wv (wv f (fv 41 1) 0 w9) (fv 41 2) 0 ((f 47 (f (fv 41 6) 0)))) g) : wq d 130 [iR 41, iI w9] f g Q := by
  obtain ⟨d, rfl⟩ : ∃ e, d = e + 1 := ⟨d - 1, by omega⟩
  refine i_meth0 rfl rfl (fun O J hO => ?_)
  have hb := rdC_b hrd
  refine ⟨fun h => absurd (show f (fv 41 6) 0 < 0 from h) (by omega), fun _ => ?_⟩
  refine ⟨fun _ => ?_, fun h => absurd (show f (fv 41 6) 0 < 401 from by omega) h⟩
  refine ⟨show 0 ≤ (f (fv 41 6) 0 : Int) ∧ f (fv 41 6) 0 < 401 from by omega, ?_⟩
  refine ⟨show (0 : Int) = 0 ∨ 0 = 1 from by decide, ?_⟩
  exact k0
set_option maxRecDepth 100000 in
set_option maxHeartbeats 4000000 in
theorem k_unit (hd : 2 ≤ d) (hrd : (rdC f)) (hsz : (f (fv 42 3) 0) ≤ ((f 47 (f (fv 41 6) 0)))) (k0 : ∀ f1 : iF, (isu ((kdC f) ((f 47 (f (fv 41 6) 0))))) → ( (rdC (mx [43, fv 42 3, fv 42 5, fv 41 6, fv 41 7] f f1))) → (((f 47 (f1 (fv 41 6) 0))) = (nxC f) ((f 47 (f (fv 41 6) 0)))) → (((f 47 (f (fv 41 6) 0))) < (nxC f) ((f 47 (f (fv 41 6) 0)))) → ((sl (f1 43) 0 (f1 (fv 42 3) 0)) = (sl (f 43) 0 (f (fv 42 3) 0)) ++ [unt ((kdC f) ((f 47 (f (fv 41 6) 0))))]) → (f1 (fv 42 3) 0 = (f (fv 42 3) 0) + 1) → Q (some (iI 1)) (mx [43, fv 42 3, fv 42 5, fv 41 6, fv 41 7] f f1) g) (k1 : (¬ isu ((kdC f) ((f 47 (f (fv 41 6) 0))))) → Q (some (iI 0)) (wv (wv f (fv 41 1) 0 1) (fv 41 2) 0 ((f 47 (f (fv 41 6) 0)))) g) : wq d 136 [iR 41] f g Q := by
  obtain ⟨d, rfl⟩ : ∃ e, d = e + 1 := ⟨d - 1, by omega⟩
  refine i_meth0 rfl rfl (fun O J hO => ?_)
  have hb := rdC_b hrd
  have hkd := rdC_k hrd
  have hki := kdP_r (t := f 40) (len := f (fv 39 1) 0) (a := f 47 (f (fv 41 6) 0))
  rw [show kdP (f 40) (f (fv 39 1) 0) (f 47 (f (fv 41 6) 0)) = f (fv 41 7) 0 from hkd.symm] at hki
  refine Or.inl ⟨show inr ((f (fv 41 7) 0) - 8) from by constructor <;> omega, ?_⟩
  refine ⟨fun (hh_1 : f (fv 41 7) 0 < 1000) => ?_, fun (hh_1 : ¬ f (fv 41 7) 0 < 1000) => ?_⟩
  · refine ⟨fun (hh_2 : ((f (fv 41 7) 0) - 8) < 0) => ?_, fun (hh_2 : ¬ ((f (fv 41 7) 0) - 8) < 0) => ?_⟩
    · refine hO (k_fail (by omega) (show (rdC f) from hrd) ?_)
      refine ⟨show (0 : Int) = 0 ∨ 0 = 1 from by decide, ?_⟩
      exact k1 (by unfold isu; omega)
    · refine ⟨fun (hh_3 : ((f (fv 41 7) 0) - 8) < 9) => ?_, fun (hh_3 : ¬ ((f (fv 41 7) 0) - 8) < 9) => ?_⟩
      · have hao := askB_o hrd.2.2.2.2 (a := f (fv 41 7) 0 - 8) (by omega)
        refine Or.inl ⟨show inr ((-1) - ((f (fv 41 7) 0) - 8)) from by constructor <;> omega, ?_⟩
        refine hO (k_emit (by omega) (show (rdC (wv f (fv 42 5) 0 (b_or (f (fv 42 5) 0) (b_shl 1 ((f (fv 41 7) 0) - 8))))) from ⟨hrd.1, hrd.2.1, hrd.2.2.1, hrd.2.2.2.1, hao.1⟩) (show (f (fv 42 3) 0) < 400 from by omega) (show -9 ≤ ((-1) - ((f (fv 41 7) 0) - 8)) → ((-1) - ((f (fv 41 7) 0) - 8)) < 0 → bit ((b_or (f (fv 42 5) 0) (b_shl 1 ((f (fv 41 7) 0) - 8)))) (-1 - ((-1) - ((f (fv 41 7) 0) - 8))) = true from fun _ _ => by rw [show (-1 - ((-1) - (f (fv 41 7) 0 - 8)) : Int) = f (fv 41 7) 0 - 8 by omega]; exact hao.2) (fun f1_4 (hh_5 :  (rdC (mx [43, fv 42 3] (wv f (fv 42 5) 0 (b_or (f (fv 42 5) 0) (b_shl 1 ((f (fv 41 7) 0) - 8)))) f1_4))) (hh_6 : (sl (f1_4 43) 0 (f1_4 (fv 42 3) 0)) = (sl (f 43) 0 (f (fv 42 3) 0)) ++ [((-1) - ((f (fv 41 7) 0) - 8))]) (hh_7 : f1_4 (fv 42 3) 0 = (f (fv 42 3) 0) + 1) => ?_))
        have hrd9 := hh_5
        have hc2 := hh_7
        have hcF : sl (f1_4 43) 0 (f1_4 (fv 42 3) 0) = sl (f 43) 0 (f (fv 42 3) 0) ++ [unt (kdC f (f 47 (f (fv 41 6) 0)))] := by rw [hh_6, unt_a (by omega), hkd]; congr 2; omega
        refine hO (k_step (by omega) (show (rdC (mx [43, fv 42 3] (wv f (fv 42 5) 0 (b_or (f (fv 42 5) 0) (b_shl 1 ((f (fv 41 7) 0) - 8)))) f1_4)) from hrd9) (show ¬ (f (fv 41 7) 0) = 0 from by omega) (fun f1_8 (hh_9 :  (rdC (mx [fv 41 6, fv 41 7] (mx [43, fv 42 3] (wv f (fv 42 5) 0 (b_or (f (fv 42 5) 0) (b_shl 1 ((f (fv 41 7) 0) - 8)))) f1_4) f1_8))) (hh_10 : ((f 47 (f1_8 (fv 41 6) 0))) = (nxC f) ((f 47 (f (fv 41 6) 0)))) (hh_11 : ((f 47 (f (fv 41 6) 0))) < (nxC f) ((f 47 (f (fv 41 6) 0)))) => ?_))
        have hd1 := hh_9
        have hd2 := hh_10
        have hd3 := hh_11
        refine ⟨show (1 : Int) = 0 ∨ 1 = 1 from by decide, ?_⟩
        have hk := k0 ((mx [fv 41 6, fv 41 7] (mx [43, fv 42 3] (wv f (fv 42 5) 0 (b_or (f (fv 42 5) 0) (b_shl 1 ((f (fv 41 7) 0) - 8)))) f1_4) f1_8)) (by unfold isu; omega) hd1 hd2 hd3 hcF hc2
        rw [show mx [43, fv 42 3, fv 42 5, fv 41 6, fv 41 7] f (mx [fv 41 6, fv 41 7] (mx [43, fv 42 3] (wv f (fv 42 5) 0 (b_or (f (fv 42 5) 0) (b_shl 1 ((f (fv 41 7) 0) - 8)))) f1_4) f1_8) = (mx [fv 41 6, fv 41 7] (mx [43, fv 42 3] (wv f (fv 42 5) 0 (b_or (f (fv 42 5) 0) (b_shl 1 ((f (fv 41 7) 0) - 8)))) f1_4) f1_8) from ((mx_mx rfl (mx_mx rfl (mx_wv rfl mx_rf)))).symm] at hk
        exact hk
      · refine hO (k_fail (by omega) (show (rdC f) from hrd) ?_)
        refine ⟨show (0 : Int) = 0 ∨ 0 = 1 from by decide, ?_⟩
        exact k1 (by unfold isu; omega)
  · refine Or.inl ⟨show inr ((f (fv 41 7) 0) - 1000) from by constructor <;> omega, ?_⟩
    refine hO (k_emit (by omega) (show (rdC f) from by omega) (show (f (fv 42 3) 0) < 400 from by omega) (show -9 ≤ ((f (fv 41 7) 0) - 1000) → ((f (fv 41 7) 0) - 1000) < 0 → bit (f (fv 42 5) 0) (-1 - ((f (fv 41 7) 0) - 1000)) = true from fun _ h => by omega) (fun f1_12 (hh_13 :  (rdC (mx [43, fv 42 3] f f1_12))) (hh_14 : (sl (f1_12 43) 0 (f1_12 (fv 42 3) 0)) = (sl (f 43) 0 (f (fv 42 3) 0)) ++ [((f (fv 41 7) 0) - 1000)]) (hh_15 : f1_12 (fv 42 3) 0 = (f (fv 42 3) 0) + 1) => ?_))
    have hrd9 := hh_13
    have hc2 := hh_15
    have hcF : sl (f1_12 43) 0 (f1_12 (fv 42 3) 0) = sl (f 43) 0 (f (fv 42 3) 0) ++ [unt (kdC f (f 47 (f (fv 41 6) 0)))] := by rw [hh_14, unt_n (by omega), hkd]
    refine hO (k_step (by omega) (show (rdC (mx [43, fv 42 3] f f1_12)) from hrd9) (show ¬ (f (fv 41 7) 0) = 0 from by omega) (fun f1_16 (hh_17 :  (rdC (mx [fv 41 6, fv 41 7] (mx [43, fv 42 3] f f1_12) f1_16))) (hh_18 : ((f 47 (f1_16 (fv 41 6) 0))) = (nxC f) ((f 47 (f (fv 41 6) 0)))) (hh_19 : ((f 47 (f (fv 41 6) 0))) < (nxC f) ((f 47 (f (fv 41 6) 0)))) => ?_))
    have hd1 := hh_17
    have hd2 := hh_18
    have hd3 := hh_19
    refine ⟨show (1 : Int) = 0 ∨ 1 = 1 from by decide, ?_⟩
    have hk := k0 ((mx [fv 41 6, fv 41 7] (mx [43, fv 42 3] f f1_12) f1_16)) (by unfold isu; omega) hd1 hd2 hd3 hcF hc2
    rw [show mx [43, fv 42 3, fv 42 5, fv 41 6, fv 41 7] f (mx [fv 41 6, fv 41 7] (mx [43, fv 42 3] f f1_12) f1_16) = (mx [fv 41 6, fv 41 7] (mx [43, fv 42 3] f f1_12) f1_16) from ((mx_mx rfl (mx_mx rfl mx_rf))).symm] at hk
    exact hk
set_option maxRecDepth 100000 in
set_option maxHeartbeats 4000000 in
theorem k_divisor (hd : 2 ≤ d) (hrd : (rdC f)) (hsz : (f (fv 42 3) 0) ≤ ((f 47 (f (fv 41 6) 0)))) (k0 : ∀ f1 : iF, (1000 < (kdC f) ((f 47 (f (fv 41 6) 0)))) → ( (rdC (mx [43, fv 42 3, fv 42 5, fv 41 6, fv 41 7] f f1))) → (((f 47 (f1 (fv 41 6) 0))) = (nxC f) ((f 47 (f (fv 41 6) 0)))) → (((f 47 (f (fv 41 6) 0))) < (nxC f) ((f 47 (f (fv 41 6) 0)))) → ((sl (f1 43) 0 (f1 (fv 42 3) 0)) = (sl (f 43) 0 (f (fv 42 3) 0)) ++ [(kdC f) ((f 47 (f (fv 41 6) 0))) - 1000]) → (f1 (fv 42 3) 0 = (f (fv 42 3) 0) + 1) → Q (some (iI 1)) (mx [43, fv 42 3, fv 42 5, fv 41 6, fv 41 7] f f1) g) (k1 : ((kdC f) ((f 47 (f (fv 41 6) 0))) = 1000) → Q (some (iI 0)) (wv (wv f (fv 41 1) 0 2) (fv 41 2) 0 ((f 47 (f (fv 41 6) 0)))) g) (k2 : ((kdC f) ((f 47 (f (fv 41 6) 0))) < 1000) → Q (some (iI 0)) (wv (wv f (fv 41 1) 0 1) (fv 41 2) 0 ((f 47 (f (fv 41 6) 0)))) g) : wq d 137 [iR 41] f g Q := by
  obtain ⟨d, rfl⟩ : ∃ e, d = e + 1 := ⟨d - 1, by omega⟩
  refine i_meth0 rfl rfl (fun O J hO => ?_)
  have hb := rdC_b hrd
  have hkd := rdC_k hrd
  have hki := kdP_r (t := f 40) (len := f (fv 39 1) 0) (a := f 47 (f (fv 41 6) 0))
  rw [show kdP (f 40) (f (fv 39 1) 0) (f 47 (f (fv 41 6) 0)) = f (fv 41 7) 0 from hkd.symm] at hki
  refine ⟨fun (hh_1 : 1000 < f (fv 41 7) 0) => ?_, fun (hh_1 : ¬ 1000 < f (fv 41 7) 0) => ?_⟩
  · refine Or.inl ⟨show inr ((f (fv 41 7) 0) - 1000) from by constructor <;> omega, ?_⟩
    refine hO (k_emit (by omega) (show (rdC f) from by omega) (show (f (fv 42 3) 0) < 400 from by omega) (show -9 ≤ ((f (fv 41 7) 0) - 1000) → ((f (fv 41 7) 0) - 1000) < 0 → bit (f (fv 42 5) 0) (-1 - ((f (fv 41 7) 0) - 1000)) = true from fun _ h => by omega) (fun f1_2 (hh_3 :  (rdC (mx [43, fv 42 3] f f1_2))) (hh_4 : (sl (f1_2 43) 0 (f1_2 (fv 42 3) 0)) = (sl (f 43) 0 (f (fv 42 3) 0)) ++ [((f (fv 41 7) 0) - 1000)]) (hh_5 : f1_2 (fv 42 3) 0 = (f (fv 42 3) 0) + 1) => ?_))
    have hrd9 := hh_3
    have hc2 := hh_5
    have hcF : sl (f1_2 43) 0 (f1_2 (fv 42 3) 0) = sl (f 43) 0 (f (fv 42 3) 0) ++ [kdC f (f 47 (f (fv 41 6) 0)) - 1000] := by rw [hh_4, hkd]
    refine hO (k_step (by omega) (show (rdC (mx [43, fv 42 3] f f1_2)) from hrd9) (show ¬ (f (fv 41 7) 0) = 0 from by omega) (fun f1_6 (hh_7 :  (rdC (mx [fv 41 6, fv 41 7] (mx [43, fv 42 3] f f1_2) f1_6))) (hh_8 : ((f 47 (f1_6 (fv 41 6) 0))) = (nxC f) ((f 47 (f (fv 41 6) 0)))) (hh_9 : ((f 47 (f (fv 41 6) 0))) < (nxC f) ((f 47 (f (fv 41 6) 0)))) => ?_))
    have hd1 := hh_7
    have hd2 := hh_8
    have hd3 := hh_9
    refine ⟨show (1 : Int) = 0 ∨ 1 = 1 from by decide, ?_⟩
    have hk := k0 ((mx [fv 41 6, fv 41 7] (mx [43, fv 42 3] f f1_2) f1_6)) (by omega) hd1 hd2 hd3 hcF hc2
    rw [show mx [43, fv 42 3, fv 42 5, fv 41 6, fv 41 7] f (mx [fv 41 6, fv 41 7] (mx [43, fv 42 3] f f1_2) f1_6) = (mx [fv 41 6, fv 41 7] (mx [43, fv 42 3] f f1_2) f1_6) from ((mx_mx rfl (mx_mx rfl mx_rf))).symm] at hk
    exact hk
  · refine ⟨fun (hh_10 : f (fv 41 7) 0 = 1000) => ?_, fun (hh_10 : ¬ f (fv 41 7) 0 = 1000) => ?_⟩
    · refine hO (k_fail (by omega) (show (rdC f) from hrd) ?_)
      refine ⟨show (0 : Int) = 0 ∨ 0 = 1 from by decide, ?_⟩
      first | exact k1 (by omega) | exact k2 (by omega)
    · refine hO (k_fail (by omega) (show (rdC f) from hrd) ?_)
      refine ⟨show (0 : Int) = 0 ∨ 0 = 1 from by decide, ?_⟩
      first | exact k1 (by omega) | exact k2 (by omega)
end C38
