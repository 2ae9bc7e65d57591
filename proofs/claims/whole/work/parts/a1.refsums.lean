section C43
variable {d : Nat} {f : iF} {g : iG} {Q : Option iv → iF → iG → Prop}
/-! ===== the reference: units and sums of a text ===== -/
def kdR (f : iF) : Int → Int := kdP (f 92) (f (fv 79 21) 0)
def nxR (f : iF) : Int → Int := nxP (f 92) (f (fv 79 21) 0)
/-- a text is being read -/
def rdR (f : iF) : Prop := tpB (f 92) (f (fv 79 21) 0) ∧ wdB f ∧ (0 ≤ f (fv 79 23) 0 ∧ f (fv 79 23) 0 ≤ f (fv 79 21) 0) ∧ f (fv 79 22) 0 = spP (f 92) (f (fv 79 21) 0) (f (fv 79 23) 0) ∧ tvP (kdR f (f (fv 79 23) 0)) (f (fv 79 24) 0) (f (fv 79 25) 0) ∧ 0 ≤ f (fv 79 33) 0 ∧ ∀ k, 400 ≤ k → k < 400 + f (fv 79 33) 0 → opok (f 97 k) (f 98 k)
theorem rdR_b {f : iF} (h : rdR f) : 0 ≤ f (fv 79 23) 0 ∧ f (fv 79 23) 0 ≤ f (fv 79 21) 0 ∧ f (fv 79 21) 0 ≤ 400 ∧ 0 ≤ f (fv 79 33) 0 := ⟨h.2.2.1.1, h.2.2.1.2, h.1.1.2, h.2.2.2.2.2.1⟩
theorem rdR_t {f : iF} (h : rdR f) : ((kdR f (f (fv 79 23) 0) = 0 ∧ f (fv 79 24) 0 = 0) ∨ (kdR f (f (fv 79 23) 0) = 1 ∧ f (fv 79 24) 0 = 1) ∨ (3 ≤ kdR f (f (fv 79 23) 0) ∧ kdR f (f (fv 79 23) 0) ≤ 16 ∧ f (fv 79 24) 0 = 2 ∧ f (fv 79 25) 0 = kdR f (f (fv 79 23) 0) - 3) ∨ (1000 ≤ kdR f (f (fv 79 23) 0) ∧ kdR f (f (fv 79 23) 0) ≤ 10999 ∧ f (fv 79 24) 0 = 3 ∧ f (fv 79 25) 0 = kdR f (f (fv 79 23) 0) - 1000) ∨ (40 ≤ kdR f (f (fv 79 23) 0) ∧ kdR f (f (fv 79 23) 0) ≤ 62 ∧ f (fv 79 24) 0 = 4 ∧ f (fv 79 25) 0 = kdR f (f (fv 79 23) 0))) := h.2.2.2.2.1
theorem rdR_n {f : iF} (h : rdR f) (hk : ¬ kdR f (f (fv 79 23) 0) = 0) : f (fv 79 23) 0 < nxR f (f (fv 79 23) 0) ∧ nxR f (f (fv 79 23) 0) ≤ f (fv 79 21) 0 := nxP_s hk
theorem sl_r {f F : iF} {n w v : Int} (hn : 0 ≤ n) (h1 : F 97 = up (f 97) (400 + n) w) (h2 : F 98 = up (f 98) (400 + n) v) : sl (rcd F) 400 (400 + (n + 1)) = sl (rcd f) 400 (400 + n) ++ [enc w v] := by
  rw [show 400 + (n + 1) = (400 + n) + 1 by omega, sl_s (by omega)]
  congr 1
  · refine sl_congr (fun k k0 k1 => ?_)
    show enc (F 97 k) (F 98 k) = enc (f 97 k) (f 98 k)
    rw [h1, h2, up_n (by omega), up_n (by omega)]
  · show [enc (F 97 (400 + n)) (F 98 (400 + n))] = _
    rw [h1, h2, up_s, up_s]
/-- what is not the draft stays -/
def dfr (f F : iF) : Prop := ∀ k, k < 400 → F 97 k = f 97 k ∧ F 98 k = f 98 k
theorem dfr_0 {f F : iF} (h1 : F 97 = f 97) (h2 : F 98 = f 98) : dfr f F := fun k _ => ⟨by rw [h1], by rw [h2]⟩
theorem dfr_t {f F G : iF} (h1 : dfr f F) (h2 : dfr F G) : dfr f G := fun k hk => ⟨(h2 k hk).1.trans (h1 k hk).1, (h2 k hk).2.trans (h1 k hk).2⟩
theorem enc_j {w : Int} (h : w = 2 ∨ w = 3) : enc w 0 = if w = 2 then -10 else -11 := by rcases h with h | h <;> subst h <;> rfl
set_option maxRecDepth 100000 in
set_option maxHeartbeats 4000000 in
theorem c_errs {w9 : Int} (hd : 1 ≤ d) (k0 : Q (some (iI (-1))) (wv (wv f (fv 79 37) 0 w9) (fv 79 38) 0 (f (fv 79 23) 0)) g) : wq d 28 [iR 79, iI w9] f g Q := by
  obtain ⟨d, rfl⟩ : ∃ e, d = e + 1 := ⟨d - 1, by omega⟩
  refine i_meth0 rfl rfl (fun O J hO => ?_)
  exact k0
set_option maxRecDepth 100000 in
set_option maxHeartbeats 4000000 in
theorem c_emits {w9 v9 : Int} (hd : 1 ≤ d) (hrd : (rdR f)) (hsz : (f (fv 79 33) 0) < 400) (hop : opok w9 v9) (k0 : ∀ f1 : iF, ( (rdR (mx [97, 98, fv 79 33] f f1))) → ((sl (rcd f1) 400 (400 + f1 (fv 79 33) 0)) = (sl (rcd f) 400 (400 + (f (fv 79 33) 0))) ++ [enc w9 v9]) → (f1 (fv 79 33) 0 = (f (fv 79 33) 0) + 1) → ((dfr f) f1) → Q none (mx [97, 98, fv 79 33] f f1) g) : wq d 31 [iR 79, iI w9, iI v9] f g Q := by
  obtain ⟨d, rfl⟩ : ∃ e, d = e + 1 := ⟨d - 1, by omega⟩
  refine i_meth0 rfl rfl (fun O J hO => ?_)
  have hb := rdR_b hrd
  refine Or.inl ⟨show inr (400 + (f (fv 79 33) 0)) from by constructor <;> omega, ?_⟩
  refine ⟨show 0 ≤ ((400 + (f (fv 79 33) 0)) : Int) ∧ (400 + (f (fv 79 33) 0)) < 800 from by omega, ?_⟩
  refine Or.inl ⟨show inr (400 + (f (fv 79 33) 0)) from by constructor <;> omega, ?_⟩
  refine ⟨show 0 ≤ ((400 + (f (fv 79 33) 0)) : Int) ∧ (400 + (f (fv 79 33) 0)) < 800 from by omega, ?_⟩
  refine Or.inl ⟨show inr ((f (fv 79 33) 0) + 1) from by constructor <;> omega, ?_⟩
  have e97 : (wv (wv (wv f 97 (400 + (f (fv 79 33) 0)) w9) 98 (400 + (f (fv 79 33) 0)) v9) (fv 79 33) 0 ((f (fv 79 33) 0) + 1)) 97 = up (f 97) (400 + f (fv 79 33) 0) w9 := wv_up
  have e98 : (wv (wv (wv f 97 (400 + (f (fv 79 33) 0)) w9) 98 (400 + (f (fv 79 33) 0)) v9) (fv 79 33) 0 ((f (fv 79 33) 0) + 1)) 98 = up (f 98) (400 + f (fv 79 33) 0) v9 := wv_up
  have hk := k0 (wv (wv (wv f 97 (400 + (f (fv 79 33) 0)) w9) 98 (400 + (f (fv 79 33) 0)) v9) (fv 79 33) 0 ((f (fv 79 33) 0) + 1)) (by obtain ⟨h1, h2, h3, h4, h5, h6, h7⟩ := hrd; exact ⟨h1, h2, h3, h4, h5, by show 0 ≤ f (fv 79 33) 0 + 1; omega, fun k (k0 : 400 ≤ k) (k1 : k < 400 + (f (fv 79 33) 0 + 1)) => by show opok ((wv (wv (wv f 97 (400 + (f (fv 79 33) 0)) w9) 98 (400 + (f (fv 79 33) 0)) v9) (fv 79 33) 0 ((f (fv 79 33) 0) + 1)) 97 k) ((wv (wv (wv f 97 (400 + (f (fv 79 33) 0)) w9) 98 (400 + (f (fv 79 33) 0)) v9) (fv 79 33) 0 ((f (fv 79 33) 0) + 1)) 98 k); rw [e97, e98]; exact (if e : k = 400 + f (fv 79 33) 0 then by rw [e, up_s, up_s]; exact hop else by rw [up_n e, up_n e]; exact h7 k k0 (by omega))⟩) (sl_r hb.2.2.2 e97 e98) rfl (fun k hk => ⟨by rw [e97, up_n (by omega)], by rw [e98, up_n (by omega)]⟩)
  rw [show mx [97, 98, fv 79 33] f (wv (wv (wv f 97 (400 + (f (fv 79 33) 0)) w9) 98 (400 + (f (fv 79 33) 0)) v9) (fv 79 33) 0 ((f (fv 79 33) 0) + 1)) = (wv (wv (wv f 97 (400 + (f (fv 79 33) 0)) w9) 98 (400 + (f (fv 79 33) 0)) v9) (fv 79 33) 0 ((f (fv 79 33) 0) + 1)) from ((mx_wv rfl (mx_wv rfl (mx_wv rfl mx_rf)))).symm] at hk
  exact hk
theorem c_next (hd : 3 ≤ d) (hrd : (rdR f)) (k0 : ∀ f1 : iF, ( (rdR (mx [fv 79 22, fv 79 23, fv 79 24, fv 79 25] f f1))) → (f1 (fv 79 23) 0 = (nxR f) (f (fv 79 23) 0)) → Q none (mx [fv 79 22, fv 79 23, fv 79 24, fv 79 25] f f1) g) : wq d 27 [iR 79] f g Q := by
  obtain ⟨h1, h2, h3, h4, h5, h6, h7⟩ := hrd
  have hs := spP_r (t := f 92) h3.2
  refine c_reads hd h1 (by rw [h4]; omega) h2 (fun f1 e1 e2 e3 => k0 f1 ?_ ?_)
  · have hk := skp_r (t := f 92) (len := f (fv 79 21) 0) (a := f (fv 79 22) 0) (by rw [h4]; omega)
    refine ⟨h1, h2, ?_, e2, e3, h6, h7⟩
    show 0 ≤ f1 (fv 79 23) 0 ∧ f1 (fv 79 23) 0 ≤ f (fv 79 21) 0
    rw [e1]
    exact ⟨by rw [h4] at hk ⊢; omega, hk.2⟩
  · rw [e1, h4]; rfl
set_option maxRecDepth 100000 in
set_option maxHeartbeats 4000000 in
theorem c_unit (hd : 4 ≤ d) (hrd : (rdR f)) (hsz : (f (fv 79 33) 0) ≤ (f (fv 79 23) 0)) (k0 : ∀ f1 : iF, (isu ((kdR f) (f (fv 79 23) 0))) → ( (rdR (mx [97, 98, fv 79 33, fv 79 22, fv 79 23, fv 79 24, fv 79 25] f f1))) → (f1 (fv 79 23) 0 = (nxR f) (f (fv 79 23) 0)) → ((f (fv 79 23) 0) < (nxR f) (f (fv 79 23) 0)) → ((sl (rcd f1) 400 (400 + f1 (fv 79 33) 0)) = (sl (rcd f) 400 (400 + (f (fv 79 33) 0))) ++ [unt ((kdR f) (f (fv 79 23) 0))]) → (f1 (fv 79 33) 0 = (f (fv 79 33) 0) + 1) → ((dfr f) f1) → Q (some (iI 0)) (mx [97, 98, fv 79 33, fv 79 22, fv 79 23, fv 79 24, fv 79 25] f f1) g) (k1 : (¬ isu ((kdR f) (f (fv 79 23) 0))) → Q (some (iI (-1))) (wv (wv f (fv 79 37) 0 1) (fv 79 38) 0 (f (fv 79 23) 0)) g) : wq d 32 [iR 79] f g Q := by
  obtain ⟨d, rfl⟩ : ∃ e, d = e + 1 := ⟨d - 1, by omega⟩
  refine i_meth0 rfl rfl (fun O J hO => ?_)
  have hb := rdR_b hrd
  have htv := rdR_t hrd
  refine ⟨fun (hh_1 : f (fv 79 24) 0 = 2) => ?_, fun (hh_1 : ¬ f (fv 79 24) 0 = 2) => ?_⟩
  · refine ⟨fun (hh_2 : f (fv 79 25) 0 < 5) => ?_, fun (hh_2 : ¬ f (fv 79 25) 0 < 5) => ?_⟩
    · refine ⟨fun _ => ?_, fun h => absurd (show (0 : Int) = 0 from by decide) h⟩
      refine ⟨fun h => absurd (show f (fv 79 24) 0 = 3 from h) (by omega), fun _ => ?_⟩
      refine hO (c_errs (by omega) ?_)
      first | exact k1 (by unfold isu; omega) | (exfalso; omega)
    · refine ⟨fun h => absurd (show (1 : Int) = 0 from h) (by decide), fun _ => ?_⟩
      refine ⟨fun h => absurd (show (1 : Int) = 0 from h) (by decide), fun _ => ?_⟩
      refine ⟨fun h => absurd (show (1 : Int) = 0 from h) (by decide), fun _ => ?_⟩
      refine Or.inl ⟨show inr ((f (fv 79 25) 0) - 5) from by constructor <;> omega, ?_⟩
      refine hO (c_emits (by omega) (show (rdR f) from hrd) (show (f (fv 79 33) 0) < 400 from by first | (have q := rdR_n hrd (by omega); omega) | (exfalso; omega)) (show opok 1 ((f (fv 79 25) 0) - 5) from by first | exact Or.inl ⟨rfl, by omega, by omega⟩ | exact Or.inr (Or.inl ⟨rfl, by omega, by omega⟩) | (exfalso; omega)) (fun f1_3 (hh_4 :  (rdR (mx [97, 98, fv 79 33] f f1_3))) (hh_5 : (sl (rcd f1_3) 400 (400 + f1_3 (fv 79 33) 0)) = (sl (rcd f) 400 (400 + (f (fv 79 33) 0))) ++ [enc 1 ((f (fv 79 25) 0) - 5)]) (hh_6 : f1_3 (fv 79 33) 0 = (f (fv 79 33) 0) + 1) (hh_7 : (dfr f) f1_3) => ?_))
      have hc1 := hh_4
      have hc3 := hh_6
      have hc4 := hh_7
      have hcF : sl (rcd f1_3) 400 (400 + f1_3 (fv 79 33) 0) = sl (rcd f) 400 (400 + f (fv 79 33) 0) ++ [unt (kdR f (f (fv 79 23) 0))] := by
        rw [hh_5]
        congr 2
        first
        | (rw [unt_n (by omega)]; show (f (fv 79 25) 0 : Int) = _; omega)
        | (rw [unt_a (by omega)]; show (-1 - (f (fv 79 25) 0 - 5) : Int) = _; omega)
        | (exfalso; omega)
      refine hO (c_next (by omega) (show (rdR (mx [97, 98, fv 79 33] f f1_3)) from hc1) (fun f1_8 (hh_9 :  (rdR (mx [fv 79 22, fv 79 23, fv 79 24, fv 79 25] (mx [97, 98, fv 79 33] f f1_3) f1_8))) (hh_10 : f1_8 (fv 79 23) 0 = (nxR f) (f (fv 79 23) 0)) => ?_))
      have hn1 := hh_9
      have hn2 := hh_10
      first
      | (exfalso; omega)
      | (have hk := k0 ((mx [fv 79 22, fv 79 23, fv 79 24, fv 79 25] (mx [97, 98, fv 79 33] f f1_3) f1_8)) (by unfold isu; omega) hn1 hn2 (rdR_n hrd (by omega)).1 hcF hc3 hc4; rw [show mx [97, 98, fv 79 33, fv 79 22, fv 79 23, fv 79 24, fv 79 25] f (mx [fv 79 22, fv 79 23, fv 79 24, fv 79 25] (mx [97, 98, fv 79 33] f f1_3) f1_8) = (mx [fv 79 22, fv 79 23, fv 79 24, fv 79 25] (mx [97, 98, fv 79 33] f f1_3) f1_8) from ((mx_mx rfl (mx_mx rfl mx_rf))).symm] at hk; exact hk)
  · refine ⟨fun _ => ?_, fun h => absurd (show (0 : Int) = 0 from by decide) h⟩
    refine ⟨fun (hh_11 : f (fv 79 24) 0 = 3) => ?_, fun (hh_11 : ¬ f (fv 79 24) 0 = 3) => ?_⟩
    · refine ⟨fun _ => ?_, fun h => absurd (show (0 : Int) = 0 from by decide) h⟩
      refine ⟨fun _ => ?_, fun h => absurd (show (0 : Int) = 0 from by decide) h⟩
      refine hO (c_emits (by omega) (show (rdR f) from hrd) (show (f (fv 79 33) 0) < 400 from by first | (have q := rdR_n hrd (by omega); omega) | (exfalso; omega)) (show opok 0 (f (fv 79 25) 0) from by first | exact Or.inl ⟨rfl, by omega, by omega⟩ | exact Or.inr (Or.inl ⟨rfl, by omega, by omega⟩) | (exfalso; omega)) (fun f1_12 (hh_13 :  (rdR (mx [97, 98, fv 79 33] f f1_12))) (hh_14 : (sl (rcd f1_12) 400 (400 + f1_12 (fv 79 33) 0)) = (sl (rcd f) 400 (400 + (f (fv 79 33) 0))) ++ [enc 0 (f (fv 79 25) 0)]) (hh_15 : f1_12 (fv 79 33) 0 = (f (fv 79 33) 0) + 1) (hh_16 : (dfr f) f1_12) => ?_))
      have hc1 := hh_13
      have hc3 := hh_15
      have hc4 := hh_16
      have hcF : sl (rcd f1_12) 400 (400 + f1_12 (fv 79 33) 0) = sl (rcd f) 400 (400 + f (fv 79 33) 0) ++ [unt (kdR f (f (fv 79 23) 0))] := by
        rw [hh_14]
        congr 2
        first
        | (rw [unt_n (by omega)]; show (f (fv 79 25) 0 : Int) = _; omega)
        | (rw [unt_a (by omega)]; show (-1 - (f (fv 79 25) 0 - 5) : Int) = _; omega)
        | (exfalso; omega)
      refine hO (c_next (by omega) (show (rdR (mx [97, 98, fv 79 33] f f1_12)) from hc1) (fun f1_17 (hh_18 :  (rdR (mx [fv 79 22, fv 79 23, fv 79 24, fv 79 25] (mx [97, 98, fv 79 33] f f1_12) f1_17))) (hh_19 : f1_17 (fv 79 23) 0 = (nxR f) (f (fv 79 23) 0)) => ?_))
      have hn1 := hh_18
      have hn2 := hh_19
      first
      | (exfalso; omega)
      | (have hk := k0 ((mx [fv 79 22, fv 79 23, fv 79 24, fv 79 25] (mx [97, 98, fv 79 33] f f1_12) f1_17)) (by unfold isu; omega) hn1 hn2 (rdR_n hrd (by omega)).1 hcF hc3 hc4; rw [show mx [97, 98, fv 79 33, fv 79 22, fv 79 23, fv 79 24, fv 79 25] f (mx [fv 79 22, fv 79 23, fv 79 24, fv 79 25] (mx [97, 98, fv 79 33] f f1_12) f1_17) = (mx [fv 79 22, fv 79 23, fv 79 24, fv 79 25] (mx [97, 98, fv 79 33] f f1_12) f1_17) from ((mx_mx rfl (mx_mx rfl mx_rf))).symm] at hk; exact hk)
    · refine hO (c_errs (by omega) ?_)
      first | exact k1 (by unfold isu; omega) | (exfalso; omega)
end C43
