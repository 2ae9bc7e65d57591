section C21
variable {d : Nat} {f : iF} {g : iG} {Q : Option iv → iF → iG → Prop}
set_option maxRecDepth 100000 in
set_option maxHeartbeats 4000000 in
theorem c_changes {s t : Int} (hd : 1 ≤ d) (hst : 0 ≤ s ∧ s < 29 ∧ 0 ≤ t ∧ t < 29) (k0 : ∀ f1 : iF, (f1 86 = up (up (f 86) s (f 86 t)) t (f 86 s)) → Q none (mx [86] f f1) g) : wq d 76 [iR 79, iI s, iI t] f g Q := by
  obtain ⟨d, rfl⟩ : ∃ e, d = e + 1 := ⟨d - 1, by omega⟩
  refine i_meth0 rfl rfl (fun O J hO => ?_)
  refine ⟨show 0 ≤ (s : Int) ∧ s < 29 from by omega, ?_⟩
  refine ⟨show 0 ≤ (t : Int) ∧ t < 29 from by omega, ?_⟩
  refine ⟨show 0 ≤ (s : Int) ∧ s < 29 from by omega, ?_⟩
  refine ⟨show 0 ≤ (t : Int) ∧ t < 29 from by omega, ?_⟩
  have hk := k0 (wv (wv f 86 s (f 86 t)) 86 t (f 86 s)) (by rw [wv_up, wv_up])
  rw [show mx [86] f (wv (wv f 86 s (f 86 t)) 86 t (f 86 s)) = (wv (wv f 86 s (f 86 t)) 86 t (f 86 s)) from ((mx_wv rfl (mx_wv rfl mx_rf))).symm] at hk
  exact hk
/-! ===== the reference: swap ===== -/
theorem oR_sw {F f : iF} {s t : Int} (h : F 86 = up (up (f 86) s (f 86 t)) t (f 86 s)) : oR F = sw (oR f) s t := by
  funext k
  unfold oR sw
  rw [h]
  unfold up
  by_cases e : k = t
  · rw [if_pos e, if_pos e]
  · rw [if_neg e, if_neg e]
    by_cases e2 : k = s
    · rw [if_pos e2, if_pos e2]
    · rw [if_neg e2, if_neg e2]
theorem oB_sw {F f : iF} {s t : Int} (h : F 86 = up (up (f 86) s (f 86 t)) t (f 86 s)) (hst : 0 ≤ s ∧ s < 29 ∧ 0 ≤ t ∧ t < 29) (ho : oB f) : oB F := by
  intro k h0 h1
  rw [h]
  unfold up
  split
  · exact ho s hst.1 hst.2.1
  · split
    · exact ho t hst.2.2.1 hst.2.2.2
    · exact ho k h0 h1
theorem sw_sw {h : Int → Int} {s t : Int} : up (up (up (up h s (h t)) t (h s)) s (up (up h s (h t)) t (h s) t)) t (up (up h s (h t)) t (h s) s) = h := by
  funext k
  unfold up
  by_cases e : k = t
  · rw [if_pos e]
    by_cases e2 : s = t
    · rw [if_pos e2, e, ← e2]
    · rw [if_neg e2, if_pos rfl, e]
  · rw [if_neg e]
    by_cases e2 : k = s
    · rw [if_pos e2, if_pos rfl, e2]
    · rw [if_neg e2, if_neg e, if_neg e2]
theorem aR_sw {F f : iF} {s t : Int} (h1 : F 87 = f 87) (h2 : F 83 = f 83) (h : F 86 = up (up (f 86) s (f 86 t)) t (f 86 s)) : aR F = abl (f 87) (sw (oR f) s t) (f 83) := by
  unfold aR
  rw [oR_sw h, h1, h2]
set_option maxRecDepth 100000 in
set_option maxHeartbeats 4000000 in
theorem c_isBetter {s t : Int} (hd : 6 ≤ d) (hst : 0 ≤ s ∧ s < 29 ∧ 0 ≤ t ∧ t < 29) (hr : (rwB f)) (ho : (oB f)) (hl : (lB f)) (hday : 0 ≤ (f (fv 79 12) 0) ∧ (f (fv 79 12) 0) ≤ 9999) (k0 : ∀ f1 : iF, (gnB (f 87) (f 83) (oR f) (f (fv 79 12) 0) (lwR f) (f 89) (f (fv 79 15) 0) s t = true) → (f1 86 = (f 86)) → Q (some (iI 1)) (mx [86, 100, 101, 102] f f1) g) (k1 : ∀ f1 : iF, (gnB (f 87) (f 83) (oR f) (f (fv 79 12) 0) (lwR f) (f 89) (f (fv 79 15) 0) s t = false) → (f1 86 = (f 86)) → Q (some (iI 0)) (mx [86, 100, 101, 102] f f1) g) : wq d 77 [iR 79, iI s, iI t] f g Q := by
  obtain ⟨d, rfl⟩ : ∃ e, d = e + 1 := ⟨d - 1, by omega⟩
  refine i_meth0 rfl rfl (fun O J hO => ?_)
  have hs1 := ho s (by omega) (by omega)
  have ht1 := ho t (by omega) (by omega)
  refine hO (c_ownerOf (by omega) (show 0 ≤ s from by omega) (show s < 29 from by omega) (show (oB f) from ho) ?_)
  refine hO (c_ownerOf (by omega) (show 0 ≤ t from by omega) (show t < 29 from by omega) (show (oB f) from ho) ?_)
  refine ⟨fun (hh_1 : (f 86 s) - 1 = (-1)) => ?_, fun (hh_1 : ¬ (f 86 s) - 1 = (-1)) => ?_⟩
  · refine ⟨show (0 : Int) = 0 ∨ 0 = 1 from by decide, ?_⟩
    have hk := k1 f (by unfold gnB; exact decide_eq_false (by intro h; have h1 := h.1; have h2 := h.2.1; have h3 := h.2.2.1; unfold oR at h1 h2 h3; omega)) rfl
    rw [← mx_rf] at hk
    exact hk
  · refine ⟨fun (hh_2 : (f 86 t) - 1 = (-1)) => ?_, fun (hh_2 : ¬ (f 86 t) - 1 = (-1)) => ?_⟩
    · refine ⟨show (0 : Int) = 0 ∨ 0 = 1 from by decide, ?_⟩
      have hk := k1 f (by unfold gnB; exact decide_eq_false (by intro h; have h1 := h.1; have h2 := h.2.1; have h3 := h.2.2.1; unfold oR at h1 h2 h3; omega)) rfl
      rw [← mx_rf] at hk
      exact hk
    · refine ⟨fun (hh_3 : (f 86 s) - 1 = (f 86 t) - 1) => ?_, fun (hh_3 : ¬ (f 86 s) - 1 = (f 86 t) - 1) => ?_⟩
      · refine ⟨show (0 : Int) = 0 ∨ 0 = 1 from by decide, ?_⟩
        have hk := k1 f (by unfold gnB; exact decide_eq_false (by intro h; have h1 := h.1; have h2 := h.2.1; have h3 := h.2.2.1; unfold oR at h1 h2 h3; omega)) rfl
        rw [← mx_rf] at hk
        exact hk
      · refine hO (c_finds (by omega) (show (rwB f) from hr) (show (oB f) from ho) (show (lB f) from hl) (show 0 ≤ (f (fv 79 12) 0) ∧ (f (fv 79 12) 0) ≤ 9999 from hday) (fun f1_4 (hh_5 : ∀ a, 0 ≤ a → a < 8 → f1_4 102 a = enI (aR f) (oR f) (f (fv 79 12) 0) (lwR f) (f 89) (f (fv 79 15) 0) a) => ?_))
        have he1 := hh_5
        have h1a := he1 (f 86 s - 1) (by omega) (by omega)
        have h1b := he1 (f 86 t - 1) (by omega) (by omega)
        refine ⟨show 0 ≤ ((f 86 s) - 1 : Int) ∧ (f 86 s) - 1 < 8 from by omega, ?_⟩
        refine ⟨show 0 ≤ ((f 86 t) - 1 : Int) ∧ (f 86 t) - 1 < 8 from by omega, ?_⟩
        refine hO (c_changes (by omega) (show 0 ≤ s ∧ s < 29 ∧ 0 ≤ t ∧ t < 29 from hst) (fun f1_6 (hh_7 : f1_6 86 = up (up (f 86) s (f 86 t)) t (f 86 s)) => ?_))
        have hch := hh_7
        refine hO (c_finds (by omega) (show (rwB f) from hr) (show (oB (mx [86] f f1_6)) from oB_sw (f := f) hch hst ho) (show (lB f) from hl) (show 0 ≤ (f (fv 79 12) 0) ∧ (f (fv 79 12) 0) ≤ 9999 from hday) (fun f1_8 (hh_9 : ∀ a, 0 ≤ a → a < 8 → f1_8 102 a = enI (aR (mx [86] f f1_6)) (oR (mx [86] f f1_6)) (f (fv 79 12) 0) (lwR f) (f 89) (f (fv 79 15) 0) a) => ?_))
        have he2 := hh_9
        rw [show (oR (mx [86] f f1_6)) = sw (oR f) s t from oR_sw hch, show (aR (mx [86] f f1_6)) = abl (f 87) (sw (oR f) s t) (f 83) from aR_sw rfl rfl hch] at he2
        have h2a := he2 (f 86 s - 1) (by omega) (by omega)
        have h2b := he2 (f 86 t - 1) (by omega) (by omega)
        refine hO (c_changes (by omega) (show 0 ≤ s ∧ s < 29 ∧ 0 ≤ t ∧ t < 29 from hst) (fun f1_10 (hh_11 : f1_10 86 = up (up (f1_6 86) s (f1_6 86 t)) t (f1_6 86 s)) => ?_))
        have hch2 := hh_11
        refine ⟨show 0 ≤ ((f 86 s) - 1 : Int) ∧ (f 86 s) - 1 < 8 from by omega, ?_⟩
        refine ⟨fun (hh_12 : f1_4 102 ((f 86 s) - 1) < f1_8 102 ((f 86 s) - 1)) => ?_, fun (hh_12 : ¬ f1_4 102 ((f 86 s) - 1) < f1_8 102 ((f 86 s) - 1)) => ?_⟩
        · refine ⟨show 0 ≤ ((f 86 t) - 1 : Int) ∧ (f 86 t) - 1 < 8 from by omega, ?_⟩
          refine ⟨fun (hh_13 : f1_4 102 ((f 86 t) - 1) < f1_8 102 ((f 86 t) - 1)) => ?_, fun (hh_13 : ¬ f1_4 102 ((f 86 t) - 1) < f1_8 102 ((f 86 t) - 1)) => ?_⟩
          · refine ⟨show (1 : Int) = 0 ∨ 1 = 1 from by decide, ?_⟩
            have hk := k0 (mx [86] (mx [100, 101, 102] (mx [86] (mx [100, 101, 102] f f1_4) f1_6) f1_8) f1_10) (by unfold gnB; exact decide_eq_true ⟨by unfold oR; omega, by unfold oR; omega, by unfold oR; omega, by show enI (aR f) (oR f) (f (fv 79 12) 0) (lwR f) (f 89) (f (fv 79 15) 0) (f 86 s - 1) < enI (abl (f 87) (sw (oR f) s t) (f 83)) (sw (oR f) s t) (f (fv 79 12) 0) (lwR f) (f 89) (f (fv 79 15) 0) (f 86 s - 1); omega, by show enI (aR f) (oR f) (f (fv 79 12) 0) (lwR f) (f 89) (f (fv 79 15) 0) (f 86 t - 1) < enI (abl (f 87) (sw (oR f) s t) (f 83)) (sw (oR f) s t) (f (fv 79 12) 0) (lwR f) (f 89) (f (fv 79 15) 0) (f 86 t - 1); omega⟩) (hch2.trans (by rw [hch]; exact sw_sw))
            rw [show mx [86, 100, 101, 102] f (mx [86] (mx [100, 101, 102] (mx [86] (mx [100, 101, 102] f f1_4) f1_6) f1_8) f1_10) = (mx [86] (mx [100, 101, 102] (mx [86] (mx [100, 101, 102] f f1_4) f1_6) f1_8) f1_10) from ((mx_mx rfl (mx_mx rfl (mx_mx rfl (mx_mx rfl mx_rf))))).symm] at hk
            exact hk
          · refine ⟨show (0 : Int) = 0 ∨ 0 = 1 from by decide, ?_⟩
            have hk := k1 (mx [86] (mx [100, 101, 102] (mx [86] (mx [100, 101, 102] f f1_4) f1_6) f1_8) f1_10) (by unfold gnB; exact decide_eq_false (by intro h; have h4 : enI (aR f) (oR f) (f (fv 79 12) 0) (lwR f) (f 89) (f (fv 79 15) 0) (f 86 s - 1) < enI (abl (f 87) (sw (oR f) s t) (f 83)) (sw (oR f) s t) (f (fv 79 12) 0) (lwR f) (f 89) (f (fv 79 15) 0) (f 86 s - 1) := h.2.2.2.1; have h5 : enI (aR f) (oR f) (f (fv 79 12) 0) (lwR f) (f 89) (f (fv 79 15) 0) (f 86 t - 1) < enI (abl (f 87) (sw (oR f) s t) (f 83)) (sw (oR f) s t) (f (fv 79 12) 0) (lwR f) (f 89) (f (fv 79 15) 0) (f 86 t - 1) := h.2.2.2.2; omega)) (hch2.trans (by rw [hch]; exact sw_sw))
            rw [show mx [86, 100, 101, 102] f (mx [86] (mx [100, 101, 102] (mx [86] (mx [100, 101, 102] f f1_4) f1_6) f1_8) f1_10) = (mx [86] (mx [100, 101, 102] (mx [86] (mx [100, 101, 102] f f1_4) f1_6) f1_8) f1_10) from ((mx_mx rfl (mx_mx rfl (mx_mx rfl (mx_mx rfl mx_rf))))).symm] at hk
            exact hk
        · refine ⟨show (0 : Int) = 0 ∨ 0 = 1 from by decide, ?_⟩
          have hk := k1 (mx [86] (mx [100, 101, 102] (mx [86] (mx [100, 101, 102] f f1_4) f1_6) f1_8) f1_10) (by unfold gnB; exact decide_eq_false (by intro h; have h4 : enI (aR f) (oR f) (f (fv 79 12) 0) (lwR f) (f 89) (f (fv 79 15) 0) (f 86 s - 1) < enI (abl (f 87) (sw (oR f) s t) (f 83)) (sw (oR f) s t) (f (fv 79 12) 0) (lwR f) (f 89) (f (fv 79 15) 0) (f 86 s - 1) := h.2.2.2.1; have h5 : enI (aR f) (oR f) (f (fv 79 12) 0) (lwR f) (f 89) (f (fv 79 15) 0) (f 86 t - 1) < enI (abl (f 87) (sw (oR f) s t) (f 83)) (sw (oR f) s t) (f (fv 79 12) 0) (lwR f) (f 89) (f (fv 79 15) 0) (f 86 t - 1) := h.2.2.2.2; omega)) (hch2.trans (by rw [hch]; exact sw_sw))
          rw [show mx [86, 100, 101, 102] f (mx [86] (mx [100, 101, 102] (mx [86] (mx [100, 101, 102] f f1_4) f1_6) f1_8) f1_10) = (mx [86] (mx [100, 101, 102] (mx [86] (mx [100, 101, 102] f f1_4) f1_6) f1_8) f1_10) from ((mx_mx rfl (mx_mx rfl (mx_mx rfl (mx_mx rfl mx_rf))))).symm] at hk
          exact hk
theorem gnB_cg {bu st ow : Int → Int} {day : Int} {w : Lw} {row row' : Int → Int} {n s t : Int} (h : ∀ k, 0 ≤ k → k < n → row k = row' k) : gnB bu st ow day w row n s t = gnB bu st ow day w row' n s t := by
  unfold gnB
  rw [enI_cg h, enI_cg (a := ow s) (ow := sw ow s t) h, enI_cg (a := ow t) h, enI_cg (a := ow t) (ow := sw ow s t) h]
theorem oB_eq {F f : iF} (h : F 86 = f 86) (ho : oB f) : oB F := by
  intro k h0 h1
  rw [h]
  exact ho k h0 h1
theorem oR_eq {F f : iF} (h : F 86 = f 86) : oR F = oR f := by unfold oR; rw [h]
set_option maxRecDepth 100000 in
set_option maxHeartbeats 4000000 in
theorem c_swap {w : Int} (hd : 7 ≤ d) (hg : (pgB f)) (ho : (oB f)) (hl : (lB f)) (hday : 0 ≤ (f (fv 79 12) 0) ∧ (f (fv 79 12) 0) ≤ 9999) (k0 : ∀ ans : Int → Int, ∀ r : Int, ∀ f1 : iF, (0 ≤ w ∧ w ≤ 2) → (SwpP (gnQ (f 87) (f 83) (oR f) (f (fv 79 12) 0) (lwR f) (f 88) (f (fv 79 13) 0)) ans) → (r = ans w) → (f1 86 = (f 86)) → Q (some (iI r)) (mx [86, 89, fv 79 15, 100, 101, 102, fv 79 0] f f1) g) (k1 : (¬ (0 ≤ w ∧ w ≤ 2)) → Q (some (iI (-1))) (wv f (fv 79 0) 0 0) g) : wq d 78 [iR 79, iI w] f g Q := by
  obtain ⟨d, rfl⟩ : ∃ e, d = e + 1 := ⟨d - 1, by omega⟩
  refine i_meth [(19, 5), (26, 6)] (fun n j lv st f' g' => (j = 19 ∧ ∃ (nn : Int) (fi : Int) (s : Int) (f1 : iF), lv = [some (iR 79), some (iI w), some (iI nn), some (iI fi), some (iI s)] ∧ st = [] ∧ f' = (mx [86, 89, fv 79 15, 100, 101, 102, fv 79 0] f f1) ∧ g = g' ∧ (0 ≤ w ∧ w ≤ 2) ∧ (f1 86 = f 86) ∧ (f1 (fv 79 15) 0 = (f (fv 79 13) 0)) ∧ (∀ k, 0 ≤ k → k < (f (fv 79 13) 0) → f1 89 k = f 88 k) ∧ (0 ≤ s ∧ s ≤ 29) ∧ (swI (gnQ (f 87) (f 83) (oR f) (f (fv 79 12) 0) (lwR f) (f 88) (f (fv 79 13) 0)) (29 * s) nn fi) ∧ (n : Int) = (29 - s) * 31) ∨ (j = 26 ∧ ∃ (nn : Int) (fi : Int) (s : Int) (t : Int) (f1 : iF), lv = [some (iR 79), some (iI w), some (iI nn), some (iI fi), some (iI s), some (iI t)] ∧ st = [] ∧ f' = (mx [86, 89, fv 79 15, 100, 101, 102, fv 79 0] f f1) ∧ g = g' ∧ (0 ≤ w ∧ w ≤ 2) ∧ (f1 86 = f 86) ∧ (f1 (fv 79 15) 0 = (f (fv 79 13) 0)) ∧ (∀ k, 0 ≤ k → k < (f (fv 79 13) 0) → f1 89 k = f 88 k) ∧ (0 ≤ s ∧ s < 29 ∧ s < t ∧ t ≤ 29) ∧ (swI (gnQ (f 87) (f 83) (oR f) (f (fv 79 12) 0) (lwR f) (f 88) (f (fv 79 13) 0)) (29 * s + t) nn fi) ∧ (n : Int) = (29 - s) * 31 - t)) 1000 (by omega) rfl rfl (fun n j lv st f' g' hn hI O J hO hF hB => ?_) (fun hvs hin O J hO hF => ?_)
  · rcases hI with hI | hI
    · obtain ⟨rfl, nn, fi, s, f1, rfl, rfl, rfl, rfl, hw, h86, hnr, hrow, hs, hI, hm⟩ := hI
      have hg1 := hg.1
      have hsr := swI_r (by omega) hI
      refine ⟨fun (hh_1 : s < 29) => ?_, fun (hh_1 : ¬ s < 29) => ?_⟩
      · refine Or.inl ⟨show inr (s + 1) from by constructor <;> omega, ?_⟩
        refine hF ((29 - s) * 31 - (s + 1) : Int).toNat ?_ (Or.inr (⟨rfl, nn, fi, s, (s + 1), f1, rfl, rfl, rfl, rfl, ?_, ?_, ?_, ?_, ?_, ?_, ?_⟩))
        · omega
        · omega
        · first | exact h86a.trans h86 | exact h86 | rfl
        · exact hnr
        · exact hrow
        · omega
        · rw [show 29 * s + (s + 1) = 29 * s + ((s + 1).toNat : Int) by omega]; exact swI_skip (by omega) hI (s + 1).toNat (fun k h0 h1 => gnQ_no (by omega))
        · omega
      · have hI9 : swI (gnQ (f 87) (f 83) (oR f) (f (fv 79 12) 0) (lwR f) (f 88) (f (fv 79 13) 0)) 841 nn fi := by rw [show s = 29 by omega] at hI; exact hI
        refine ⟨fun (hh_2 : w = 0) => ?_, fun (hh_2 : ¬ w = 0) => ?_⟩
        · have hI2 : swI (gnQ (f 87) (f 83) (oR f) (f (fv 79 12) 0) (lwR f) (f 88) (f (fv 79 13) 0)) 841 nn fi := hI9
          have hfr := swI_r (by decide) hI2
          have htd : ¬ fi = -1 → fi.tdiv 29 = fi / 29 := fun h => Int.tdiv_eq_ediv_of_nonneg (by omega)
          have htm : ¬ fi = -1 → fi.tmod 29 = fi % 29 := fun h => Int.tmod_eq_emod_of_nonneg (by omega)
          have hk := k0 (an5 nn (if fi = -1 then -1 else fi / 29) (if fi = -1 then -1 else fi % 29) 0 0) (nn) f1 hw (by
            obtain ⟨q1, q2⟩ := hI2
            refine ⟨q1, ?_⟩
            rcases q2 with ⟨q2, q3, q4⟩ | ⟨q2, q3, q4, q5, q6⟩
            · exact Or.inl ⟨q2, by show (if fi = -1 then (-1 : Int) else fi / 29) = _; rw [if_pos q3], by show (if fi = -1 then (-1 : Int) else fi % 29) = _; rw [if_pos q3]⟩
            · exact Or.inr ⟨q2, fi, q3, by omega, q5, q6, by show (if fi = -1 then (-1 : Int) else fi / 29) = _; rw [if_neg (by omega)], by show (if fi = -1 then (-1 : Int) else fi % 29) = _; rw [if_neg (by omega)]⟩) (by unfold an5; (repeat' split) <;> omega) h86
          rw [show mx [86, 89, fv 79 15, 100, 101, 102, fv 79 0] f f1 = (mx [86, 89, fv 79 15, 100, 101, 102, fv 79 0] f f1) from (rfl).symm] at hk
          exact hk
        · refine ⟨fun (hh_3 : fi = (-1)) => ?_, fun (hh_3 : ¬ fi = (-1)) => ?_⟩
          · have hI2 : swI (gnQ (f 87) (f 83) (oR f) (f (fv 79 12) 0) (lwR f) (f 88) (f (fv 79 13) 0)) 841 nn fi := hI9
            have hfr := swI_r (by decide) hI2
            have htd : ¬ fi = -1 → fi.tdiv 29 = fi / 29 := fun h => Int.tdiv_eq_ediv_of_nonneg (by omega)
            have htm : ¬ fi = -1 → fi.tmod 29 = fi % 29 := fun h => Int.tmod_eq_emod_of_nonneg (by omega)
            have hk := k0 (an5 nn (if fi = -1 then -1 else fi / 29) (if fi = -1 then -1 else fi % 29) 0 0) ((-1)) f1 hw (by
              obtain ⟨q1, q2⟩ := hI2
              refine ⟨q1, ?_⟩
              rcases q2 with ⟨q2, q3, q4⟩ | ⟨q2, q3, q4, q5, q6⟩
              · exact Or.inl ⟨q2, by show (if fi = -1 then (-1 : Int) else fi / 29) = _; rw [if_pos q3], by show (if fi = -1 then (-1 : Int) else fi % 29) = _; rw [if_pos q3]⟩
              · exact Or.inr ⟨q2, fi, q3, by omega, q5, q6, by show (if fi = -1 then (-1 : Int) else fi / 29) = _; rw [if_neg (by omega)], by show (if fi = -1 then (-1 : Int) else fi % 29) = _; rw [if_neg (by omega)]⟩) (by unfold an5; (repeat' split) <;> omega) h86
            rw [show mx [86, 89, fv 79 15, 100, 101, 102, fv 79 0] f f1 = (mx [86, 89, fv 79 15, 100, 101, 102, fv 79 0] f f1) from (rfl).symm] at hk
            exact hk
          · refine ⟨fun (hh_4 : w = 1) => ?_, fun (hh_4 : ¬ w = 1) => ?_⟩
            · refine ⟨show ¬ (29 : Int) = 0 from by decide, show inr (fi.tdiv 29) from by (rw [Int.tdiv_eq_ediv_of_nonneg (by omega)]; constructor <;> omega), ?_⟩
              have hI2 : swI (gnQ (f 87) (f 83) (oR f) (f (fv 79 12) 0) (lwR f) (f 88) (f (fv 79 13) 0)) 841 nn fi := hI9
              have hfr := swI_r (by decide) hI2
              have htd : ¬ fi = -1 → fi.tdiv 29 = fi / 29 := fun h => Int.tdiv_eq_ediv_of_nonneg (by omega)
              have htm : ¬ fi = -1 → fi.tmod 29 = fi % 29 := fun h => Int.tmod_eq_emod_of_nonneg (by omega)
              have hk := k0 (an5 nn (if fi = -1 then -1 else fi / 29) (if fi = -1 then -1 else fi % 29) 0 0) ((fi.tdiv 29)) f1 hw (by
                obtain ⟨q1, q2⟩ := hI2
                refine ⟨q1, ?_⟩
                rcases q2 with ⟨q2, q3, q4⟩ | ⟨q2, q3, q4, q5, q6⟩
                · exact Or.inl ⟨q2, by show (if fi = -1 then (-1 : Int) else fi / 29) = _; rw [if_pos q3], by show (if fi = -1 then (-1 : Int) else fi % 29) = _; rw [if_pos q3]⟩
                · exact Or.inr ⟨q2, fi, q3, by omega, q5, q6, by show (if fi = -1 then (-1 : Int) else fi / 29) = _; rw [if_neg (by omega)], by show (if fi = -1 then (-1 : Int) else fi % 29) = _; rw [if_neg (by omega)]⟩) (by unfold an5; (repeat' split) <;> omega) h86
              rw [show mx [86, 89, fv 79 15, 100, 101, 102, fv 79 0] f f1 = (mx [86, 89, fv 79 15, 100, 101, 102, fv 79 0] f f1) from (rfl).symm] at hk
              exact hk
            · refine ⟨show ¬ (29 : Int) = 0 from by decide, show inr (fi.tmod 29) from by (rw [Int.tmod_eq_emod_of_nonneg (by omega)]; constructor <;> omega), ?_⟩
              have hI2 : swI (gnQ (f 87) (f 83) (oR f) (f (fv 79 12) 0) (lwR f) (f 88) (f (fv 79 13) 0)) 841 nn fi := hI9
              have hfr := swI_r (by decide) hI2
              have htd : ¬ fi = -1 → fi.tdiv 29 = fi / 29 := fun h => Int.tdiv_eq_ediv_of_nonneg (by omega)
              have htm : ¬ fi = -1 → fi.tmod 29 = fi % 29 := fun h => Int.tmod_eq_emod_of_nonneg (by omega)
              have hk := k0 (an5 nn (if fi = -1 then -1 else fi / 29) (if fi = -1 then -1 else fi % 29) 0 0) ((fi.tmod 29)) f1 hw (by
                obtain ⟨q1, q2⟩ := hI2
                refine ⟨q1, ?_⟩
                rcases q2 with ⟨q2, q3, q4⟩ | ⟨q2, q3, q4, q5, q6⟩
                · exact Or.inl ⟨q2, by show (if fi = -1 then (-1 : Int) else fi / 29) = _; rw [if_pos q3], by show (if fi = -1 then (-1 : Int) else fi % 29) = _; rw [if_pos q3]⟩
                · exact Or.inr ⟨q2, fi, q3, by omega, q5, q6, by show (if fi = -1 then (-1 : Int) else fi / 29) = _; rw [if_neg (by omega)], by show (if fi = -1 then (-1 : Int) else fi % 29) = _; rw [if_neg (by omega)]⟩) (by unfold an5; (repeat' split) <;> omega) h86
              rw [show mx [86, 89, fv 79 15, 100, 101, 102, fv 79 0] f f1 = (mx [86, 89, fv 79 15, 100, 101, 102, fv 79 0] f f1) from (rfl).symm] at hk
              exact hk
    · obtain ⟨rfl, nn, fi, s, t, f1, rfl, rfl, rfl, rfl, hw, h86, hnr, hrow, hs, hI, hm⟩ := hI
      have hg1 := hg.1
      have hsr := swI_r (by omega) hI
      refine ⟨fun (hh_5 : t < 29) => ?_, fun (hh_5 : ¬ t < 29) => ?_⟩
      · refine hO (c_isBetter (by omega) (show 0 ≤ s ∧ s < 29 ∧ 0 ≤ t ∧ t < 29 from by omega) (show (rwB (mx [86, 89, fv 79 15, 100, 101, 102, fv 79 0] f f1)) from rwB_of hnr hrow hg) (show (oB (mx [86, 89, fv 79 15, 100, 101, 102, fv 79 0] f f1)) from oB_eq (f := f) h86 ho) (show (lB f) from hl) (show 0 ≤ (f (fv 79 12) 0) ∧ (f (fv 79 12) 0) ≤ 9999 from hday) (fun f1_6 (hh_7 : gnB (f 87) (f 83) (oR (mx [86, 89, fv 79 15, 100, 101, 102, fv 79 0] f f1)) (f (fv 79 12) 0) (lwR f) (f1 89) (f1 (fv 79 15) 0) s t = true) (hh_8 : f1_6 86 = (f1 86)) => ?_) (fun f1_9 (hh_10 : gnB (f 87) (f 83) (oR (mx [86, 89, fv 79 15, 100, 101, 102, fv 79 0] f f1)) (f (fv 79 12) 0) (lwR f) (f1 89) (f1 (fv 79 15) 0) s t = false) (hh_11 : f1_9 86 = (f1 86)) => ?_))
        · have hG : (gnQ (f 87) (f 83) (oR f) (f (fv 79 12) 0) (lwR f) (f 88) (f (fv 79 13) 0)) (29 * s + t) = true := by rw [gnQ_st (by omega) (by omega) (by omega), ← gnB_cg hrow, ← hnr, ← oR_eq h86]; exact hh_7
          have h86a := hh_8
          refine ⟨fun h => absurd (show (1 : Int) = 0 from h) (by decide), fun _ => ?_⟩
          refine ⟨fun (hh_12 : nn = 0) => ?_, fun (hh_12 : ¬ nn = 0) => ?_⟩
          · refine Or.inl ⟨show inr (29 * s) from by constructor <;> omega, ?_⟩
            refine Or.inl ⟨show inr ((29 * s) + t) from by constructor <;> omega, ?_⟩
            refine Or.inl ⟨show inr (nn + 1) from by constructor <;> omega, ?_⟩
            refine ⟨show inr (t + 1) from by constructor <;> omega, ?_⟩
            refine hB ((29 - s) * 31 - (t + 1) : Int).toNat ?_ (Or.inr (⟨rfl, (nn + 1), ((29 * s) + t), s, (t + 1), (mx [86, 100, 101, 102] f1 f1_6), rfl, rfl, (mx_mx rfl rfl), rfl, ?_, ?_, ?_, ?_, ?_, ?_, ?_⟩))
            · omega
            · omega
            · first | exact h86a.trans h86 | exact h86 | rfl
            · exact hnr
            · exact hrow
            · omega
            · rw [show 29 * s + (t + 1) = 29 * s + t + 1 by omega]
              have hx := swI_t (by omega) hI hG
              first | (rw [if_pos (by omega)] at hx; exact hx) | (rw [if_neg (by omega)] at hx; exact hx)
            · omega
          · refine Or.inl ⟨show inr (nn + 1) from by constructor <;> omega, ?_⟩
            refine ⟨show inr (t + 1) from by constructor <;> omega, ?_⟩
            refine hB ((29 - s) * 31 - (t + 1) : Int).toNat ?_ (Or.inr (⟨rfl, (nn + 1), fi, s, (t + 1), (mx [86, 100, 101, 102] f1 f1_6), rfl, rfl, (mx_mx rfl rfl), rfl, ?_, ?_, ?_, ?_, ?_, ?_, ?_⟩))
            · omega
            · omega
            · first | exact h86a.trans h86 | exact h86 | rfl
            · exact hnr
            · exact hrow
            · omega
            · rw [show 29 * s + (t + 1) = 29 * s + t + 1 by omega]
              have hx := swI_t (by omega) hI hG
              first | (rw [if_pos (by omega)] at hx; exact hx) | (rw [if_neg (by omega)] at hx; exact hx)
            · omega
        · have hG : (gnQ (f 87) (f 83) (oR f) (f (fv 79 12) 0) (lwR f) (f 88) (f (fv 79 13) 0)) (29 * s + t) = false := by rw [gnQ_st (by omega) (by omega) (by omega), ← gnB_cg hrow, ← hnr, ← oR_eq h86]; exact hh_10
          have h86a := hh_11
          refine ⟨fun _ => ?_, fun h => absurd (show (0 : Int) = 0 from by decide) h⟩
          refine ⟨show inr (t + 1) from by constructor <;> omega, ?_⟩
          refine hB ((29 - s) * 31 - (t + 1) : Int).toNat ?_ (Or.inr (⟨rfl, nn, fi, s, (t + 1), (mx [86, 100, 101, 102] f1 f1_9), rfl, rfl, (mx_mx rfl rfl), rfl, ?_, ?_, ?_, ?_, ?_, ?_, ?_⟩))
          · omega
          · omega
          · first | exact h86a.trans h86 | exact h86 | rfl
          · exact hnr
          · exact hrow
          · omega
          · rw [show 29 * s + (t + 1) = 29 * s + t + 1 by omega]
            exact swI_f (by omega) hI hG
          · omega
      · refine ⟨show inr (s + 1) from by constructor <;> omega, ?_⟩
        refine hB ((29 - (s + 1)) * 31 : Int).toNat ?_ (Or.inl ⟨rfl, nn, fi, (s + 1), f1, rfl, rfl, rfl, rfl, ?_, ?_, ?_, ?_, ?_, ?_, ?_⟩)
        · omega
        · omega
        · first | exact h86a.trans h86 | exact h86 | rfl
        · exact hnr
        · exact hrow
        · omega
        · rw [show 29 * (s + 1) = 29 * s + t by omega]; exact hI
        · omega
  · have hg1 := hg.1
    refine hO (c_isIn (by omega) (fun (hh_13 : 0 ≤ w) (hh_14 : w ≤ 2) => ?_) (fun (hh_15 : ¬ (0 ≤ w ∧ w ≤ 2)) => ?_))
    · refine ⟨fun h => absurd (show (1 : Int) = 0 from h) (by decide), fun _ => ?_⟩
      refine hO (c_thinks (by omega) (show (pgB f) from hg) (fun f1_16 (hh_17 : f1_16 (fv 79 15) 0 = (f (fv 79 13) 0)) (hh_18 : ∀ i, 0 ≤ i → i < (f (fv 79 13) 0) → f1_16 89 i = (f 88 i)) => ?_))
      have hnr := hh_17
      have hrow := hh_18
      refine hF ((29 - 0) * 31 : Int).toNat ?_ (Or.inl ⟨rfl, 0, (-1), 0, (mx [89, fv 79 15] (wv f (fv 79 0) 0 0) f1_16), rfl, rfl, (mx_mx rfl (mx_wv rfl mx_rf)), rfl, ?_, ?_, ?_, ?_, ?_, ?_, ?_⟩)
      · omega
      · omega
      · first | exact h86a.trans h86 | exact h86 | rfl
      · exact hnr
      · exact hrow
      · omega
      · exact swI_0
      · omega
    · refine ⟨fun _ => ?_, fun h => absurd (show (0 : Int) = 0 from by decide) h⟩
      exact k1 (by omega)
end C21
