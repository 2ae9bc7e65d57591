section C19
variable {d : Nat} {f : iF} {g : iG} {Q : Option iv → iF → iG → Prop}
/-! ===== the reference: fewest, the whole ===== -/
def an5 (a b c d e : Int) : Int → Int := fun k => if k = 0 then a else if k = 1 then b else if k = 2 then c else if k = 3 then d else e
theorem EaR_row {f F : iF} (hn : F (fv 79 15) 0 = f (fv 79 13) 0) (hrow : ∀ k, 0 ≤ k → k < f (fv 79 13) 0 → F 89 k = f 88 k) : alE (aR f) (oR f) (f (fv 79 12) 0) (lwR f) (f 82) (f 83) (f 87) (f (fv 79 4) 0) (F 89) (F (fv 79 15) 0) ↔ EaR f (f 88) := by
  rw [hn]
  exact alE_cg hrow
set_option maxRecDepth 100000 in
set_option maxHeartbeats 4000000 in
theorem c_fewest {w : Int} (hd : 8 ≤ d) (hc : 0 ≤ (f (fv 79 4) 0) ∧ (f (fv 79 4) 0) ≤ 8) (hg : (pgB f)) (ho : (oB f)) (hl : (lB f)) (hday : 0 ≤ (f (fv 79 12) 0) ∧ (f (fv 79 12) 0) ≤ 9999) (k0 : ∀ ans : Int → Int, ∀ r : Int, ∀ f1 : iF, (0 ≤ w ∧ w ≤ 4) → (FewP (EaR f) (f 88) (f (fv 79 13) 0) ans) → (r = ans w) → Q (some (iI r)) (mx [89, fv 79 15, 100, 101, 102, fv 79 45, fv 79 46, fv 79 0] f f1) g) (k1 : (¬ (0 ≤ w ∧ w ≤ 4)) → Q (some (iI (-1))) (wv f (fv 79 0) 0 0) g) : wq d 67 [iR 79, iI w] f g Q := by
  obtain ⟨d, rfl⟩ : ∃ e, d = e + 1 := ⟨d - 1, by omega⟩
  refine i_meth [(28, 3), (63, 3), (71, 4)] (fun n j lv st f' g' => (j = 28 ∧ ∃ (i : Int) (f1 : iF), lv = [some (iR 79), some (iI w), some (iI i)] ∧ st = [] ∧ f' = (mx [89, fv 79 15, 100, 101, 102, fv 79 45, fv 79 46, fv 79 0] f f1) ∧ g = g' ∧ (0 ≤ w ∧ w ≤ 4 ∧ (f (fv 79 13) 0) ≤ 12) ∧ (¬ EaR f (f 88)) ∧ (f1 (fv 79 15) 0 = (f (fv 79 13) 0)) ∧ (∀ k, 0 ≤ k → k < (f (fv 79 13) 0) → f1 89 k = f 88 k) ∧ (0 ≤ i ∧ i ≤ (f (fv 79 13) 0)) ∧ (∀ i2 s2, i2 < i → ¬ sol1 (EaR f) (f 88) (f (fv 79 13) 0) i2 s2) ∧ (n : Int) = 600 - i) ∨ (j = 63 ∧ ∃ (i : Int) (f1 : iF), lv = [some (iR 79), some (iI w), some (iI i)] ∧ st = [] ∧ f' = (mx [89, fv 79 15, 100, 101, 102, fv 79 45, fv 79 46, fv 79 0] f f1) ∧ g = g' ∧ (0 ≤ w ∧ w ≤ 4 ∧ (f (fv 79 13) 0) ≤ 12) ∧ (¬ EaR f (f 88)) ∧ (f1 (fv 79 15) 0 = (f (fv 79 13) 0)) ∧ (∀ k, 0 ≤ k → k < (f (fv 79 13) 0) → f1 89 k = f 88 k) ∧ (∀ i2 s2, ¬ sol1 (EaR f) (f 88) (f (fv 79 13) 0) i2 s2) ∧ (0 ≤ i ∧ i ≤ (f (fv 79 13) 0)) ∧ (∀ i2 j2 s2 t2, i2 < i → ¬ sol2 (EaR f) (f 88) (f (fv 79 13) 0) i2 j2 s2 t2) ∧ (n : Int) = (13 - i) * 20) ∨ (j = 71 ∧ ∃ (i : Int) (jv : Int) (f1 : iF), lv = [some (iR 79), some (iI w), some (iI i), some (iI jv)] ∧ st = [] ∧ f' = (mx [89, fv 79 15, 100, 101, 102, fv 79 45, fv 79 46, fv 79 0] f f1) ∧ g = g' ∧ (0 ≤ w ∧ w ≤ 4 ∧ (f (fv 79 13) 0) ≤ 12) ∧ (¬ EaR f (f 88)) ∧ (f1 (fv 79 15) 0 = (f (fv 79 13) 0)) ∧ (∀ k, 0 ≤ k → k < (f (fv 79 13) 0) → f1 89 k = f 88 k) ∧ (∀ i2 s2, ¬ sol1 (EaR f) (f 88) (f (fv 79 13) 0) i2 s2) ∧ (0 ≤ i ∧ i < (f (fv 79 13) 0) ∧ i < jv ∧ jv ≤ (f (fv 79 13) 0)) ∧ (∀ i2 j2 s2 t2, i2 < i → ¬ sol2 (EaR f) (f 88) (f (fv 79 13) 0) i2 j2 s2 t2) ∧ (∀ j2 s2 t2, j2 < jv → ¬ sol2 (EaR f) (f 88) (f (fv 79 13) 0) i j2 s2 t2) ∧ (n : Int) = (13 - i) * 20 - jv)) 600 (by omega) rfl rfl (fun n j lv st f' g' hn hI O J hO hF hB => ?_) (fun hvs hin O J hO hF => ?_)
  · rcases hI with hI | hI | hI
    · obtain ⟨rfl, i, f1, rfl, rfl, rfl, rfl, hw, hnE, hnr, hrow, hi, hz, hm⟩ := hI
      have hg1 := hg.1
      refine ⟨fun (hh_1 : i < f (fv 79 13) 0) => ?_, fun (hh_1 : ¬ i < f (fv 79 13) 0) => ?_⟩
      · refine ⟨show 0 ≤ (i : Int) ∧ i < 60 from by omega, ?_⟩
        refine ⟨fun (hh_2 : f 88 i = 29) => ?_, fun (hh_2 : ¬ f 88 i = 29) => ?_⟩
        · refine ⟨show inr (i + 1) from by constructor <;> omega, ?_⟩
          refine hB (600 - (i + 1) : Int).toNat ?_ (Or.inl ⟨rfl, (i + 1), f1, rfl, rfl, rfl, rfl, ?_, ?_, ?_, ?_, ?_, ?_, ?_⟩)
          · omega
          · omega
          · exact hnE
          · exact hnr
          · first | assumption | exact hrow
          · omega
          · intro i2 s2 h0 h1
            by_cases e : i2 = i
            · rw [e] at h1; first | exact h1.2.2.1 (by assumption) | exact hno s2 h1
            · exact hz i2 s2 (by omega) h1
          · omega
        · refine hO (c_one (by omega) (show 0 ≤ i ∧ i < (f (fv 79 13) 0) ∧ ¬ (f 88 i) = 29 from by omega) (show 0 ≤ (f (fv 79 4) 0) ∧ (f (fv 79 4) 0) ≤ 8 from hc) (show (pgB f) from hg) (show (oB f) from ho) (show (lB f) from hl) (show 0 ≤ (f (fv 79 12) 0) ∧ (f (fv 79 12) 0) ≤ 9999 from hday) (show (f1 (fv 79 15) 0) = (f (fv 79 13) 0) from hnr) (show ∀ k, 0 ≤ k → k < (f (fv 79 13) 0) → (f1 89 k) = (f 88 k) from hrow) (fun f1_3 (hh_4 : sol1 (EaR f) (f 88) (f (fv 79 13) 0) i (f1_3 (fv 79 45) 0)) (hh_5 : ∀ t, sol1 (EaR f) (f 88) (f (fv 79 13) 0) i t → f1_3 (fv 79 45) 0 ≤ t) (hh_6 : ∀ k, 0 ≤ k → k < (f (fv 79 13) 0) → f1_3 89 k = (f 88 k)) => ?_) (fun f1_7 (hh_8 : ∀ t, ¬ sol1 (EaR f) (f 88) (f (fv 79 13) 0) i t) (hh_9 : ∀ k, 0 ≤ k → k < (f (fv 79 13) 0) → f1_7 89 k = (f 88 k)) => ?_))
          · have hs1 := hh_4
            have hmin := hh_5
            refine ⟨fun h => absurd (show (1 : Int) = 0 from h) (by decide), fun _ => ?_⟩
            refine ⟨fun (hh_10 : w = 0) => ?_, fun (hh_10 : ¬ w = 0) => ?_⟩
            · have hk := k0 (an5 1 i (f1_3 (fv 79 45) 0) (-1) (-1)) (1) (mx [89, 100, 101, 102, fv 79 45] f1 f1_3) ⟨hw.1, hw.2.1⟩ (Or.inr (Or.inr (Or.inl ⟨hw.2.2, hnE, rfl, hs1, fun i2 s2 h => by
                show i < i2 ∨ (i = i2 ∧ f1_3 (fv 79 45) 0 ≤ s2)
                by_cases e : i2 < i
                · exact absurd h (hz i2 s2 e)
                · by_cases e2 : i2 = i
                  · rw [e2] at h; exact Or.inr ⟨e2.symm, hmin s2 h⟩
                  · exact Or.inl (by omega), rfl, rfl⟩))) (by unfold an5; (repeat' split) <;> omega)
              rw [show mx [89, fv 79 15, 100, 101, 102, fv 79 45, fv 79 46, fv 79 0] f (mx [89, 100, 101, 102, fv 79 45] f1 f1_3) = (mx [89, 100, 101, 102, fv 79 45] (mx [89, fv 79 15, 100, 101, 102, fv 79 45, fv 79 46, fv 79 0] f f1) f1_3) from ((mx_mx rfl rfl)).symm] at hk
              exact hk
            · refine ⟨fun (hh_11 : w = 1) => ?_, fun (hh_11 : ¬ w = 1) => ?_⟩
              · have hk := k0 (an5 1 i (f1_3 (fv 79 45) 0) (-1) (-1)) (i) (mx [89, 100, 101, 102, fv 79 45] f1 f1_3) ⟨hw.1, hw.2.1⟩ (Or.inr (Or.inr (Or.inl ⟨hw.2.2, hnE, rfl, hs1, fun i2 s2 h => by
                  show i < i2 ∨ (i = i2 ∧ f1_3 (fv 79 45) 0 ≤ s2)
                  by_cases e : i2 < i
                  · exact absurd h (hz i2 s2 e)
                  · by_cases e2 : i2 = i
                    · rw [e2] at h; exact Or.inr ⟨e2.symm, hmin s2 h⟩
                    · exact Or.inl (by omega), rfl, rfl⟩))) (by unfold an5; (repeat' split) <;> omega)
                rw [show mx [89, fv 79 15, 100, 101, 102, fv 79 45, fv 79 46, fv 79 0] f (mx [89, 100, 101, 102, fv 79 45] f1 f1_3) = (mx [89, 100, 101, 102, fv 79 45] (mx [89, fv 79 15, 100, 101, 102, fv 79 45, fv 79 46, fv 79 0] f f1) f1_3) from ((mx_mx rfl rfl)).symm] at hk
                exact hk
              · refine ⟨fun (hh_12 : w = 2) => ?_, fun (hh_12 : ¬ w = 2) => ?_⟩
                · have hk := k0 (an5 1 i (f1_3 (fv 79 45) 0) (-1) (-1)) (f1_3 (fv 79 45) 0) (mx [89, 100, 101, 102, fv 79 45] f1 f1_3) ⟨hw.1, hw.2.1⟩ (Or.inr (Or.inr (Or.inl ⟨hw.2.2, hnE, rfl, hs1, fun i2 s2 h => by
                    show i < i2 ∨ (i = i2 ∧ f1_3 (fv 79 45) 0 ≤ s2)
                    by_cases e : i2 < i
                    · exact absurd h (hz i2 s2 e)
                    · by_cases e2 : i2 = i
                      · rw [e2] at h; exact Or.inr ⟨e2.symm, hmin s2 h⟩
                      · exact Or.inl (by omega), rfl, rfl⟩))) (by unfold an5; (repeat' split) <;> omega)
                  rw [show mx [89, fv 79 15, 100, 101, 102, fv 79 45, fv 79 46, fv 79 0] f (mx [89, 100, 101, 102, fv 79 45] f1 f1_3) = (mx [89, 100, 101, 102, fv 79 45] (mx [89, fv 79 15, 100, 101, 102, fv 79 45, fv 79 46, fv 79 0] f f1) f1_3) from ((mx_mx rfl rfl)).symm] at hk
                  exact hk
                · have hk := k0 (an5 1 i (f1_3 (fv 79 45) 0) (-1) (-1)) ((-1)) (mx [89, 100, 101, 102, fv 79 45] f1 f1_3) ⟨hw.1, hw.2.1⟩ (Or.inr (Or.inr (Or.inl ⟨hw.2.2, hnE, rfl, hs1, fun i2 s2 h => by
                    show i < i2 ∨ (i = i2 ∧ f1_3 (fv 79 45) 0 ≤ s2)
                    by_cases e : i2 < i
                    · exact absurd h (hz i2 s2 e)
                    · by_cases e2 : i2 = i
                      · rw [e2] at h; exact Or.inr ⟨e2.symm, hmin s2 h⟩
                      · exact Or.inl (by omega), rfl, rfl⟩))) (by unfold an5; (repeat' split) <;> omega)
                  rw [show mx [89, fv 79 15, 100, 101, 102, fv 79 45, fv 79 46, fv 79 0] f (mx [89, 100, 101, 102, fv 79 45] f1 f1_3) = (mx [89, 100, 101, 102, fv 79 45] (mx [89, fv 79 15, 100, 101, 102, fv 79 45, fv 79 46, fv 79 0] f f1) f1_3) from ((mx_mx rfl rfl)).symm] at hk
                  exact hk
          · have hno := hh_8
            refine ⟨fun _ => ?_, fun h => absurd (show (0 : Int) = 0 from by decide) h⟩
            refine ⟨show inr (i + 1) from by constructor <;> omega, ?_⟩
            refine hB (600 - (i + 1) : Int).toNat ?_ (Or.inl ⟨rfl, (i + 1), (mx [89, 100, 101, 102, fv 79 45] f1 f1_7), rfl, rfl, (mx_mx rfl rfl), rfl, ?_, ?_, ?_, ?_, ?_, ?_, ?_⟩)
            · omega
            · omega
            · exact hnE
            · exact hnr
            · first | assumption | exact hrow
            · omega
            · intro i2 s2 h0 h1
              by_cases e : i2 = i
              · rw [e] at h1; first | exact h1.2.2.1 (by assumption) | exact hno s2 h1
              · exact hz i2 s2 (by omega) h1
            · omega
      · refine hF ((13 - 0) * 20 : Int).toNat ?_ (Or.inr (Or.inl ⟨rfl, 0, f1, rfl, rfl, rfl, rfl, ?_, ?_, ?_, ?_, ?_, ?_, ?_, ?_⟩))
        · omega
        · omega
        · exact hnE
        · exact hnr
        · first | assumption | exact hrow
        · intro i2 s2 h1
          by_cases e : i2 < i
          · exact hz i2 s2 e h1
          · exact absurd h1.2.1 (by omega)
        · omega
        · intro i2 j2 s2 t2 h0 h1; exact absurd h1.1 (by omega)
        · omega
    · obtain ⟨rfl, i, f1, rfl, rfl, rfl, rfl, hw, hnE, hnr, hrow, hz, hi, hz2, hm⟩ := hI
      have hg1 := hg.1
      refine ⟨fun (hh_13 : i < f (fv 79 13) 0) => ?_, fun (hh_13 : ¬ i < f (fv 79 13) 0) => ?_⟩
      · refine Or.inl ⟨show inr (i + 1) from by constructor <;> omega, ?_⟩
        refine hF ((13 - i) * 20 - (i + 1) : Int).toNat ?_ (Or.inr (Or.inr (⟨rfl, i, (i + 1), f1, rfl, rfl, rfl, rfl, ?_, ?_, ?_, ?_, ?_, ?_, ?_, ?_, ?_⟩)))
        · omega
        · omega
        · exact hnE
        · exact hnr
        · first | assumption | exact hrow
        · exact hz
        · omega
        · exact hz2
        · intro j2 s2 t2 h0 h1; exact absurd h1.2.1 (by omega)
        · omega
      · have hk := k0 (fun _ => -1) (-1) f1 ⟨hw.1, hw.2.1⟩ (Or.inr (Or.inr (Or.inr (Or.inr ⟨hw.2.2, hnE, hz, fun i2 j2 s2 t2 h => by
          by_cases e : i2 < i
          · exact hz2 i2 j2 s2 t2 e h
          · have h5 := h.2.1; have h6 := h.2.2.1; omega, fun _ _ _ => rfl⟩)))) rfl
        rw [show mx [89, fv 79 15, 100, 101, 102, fv 79 45, fv 79 46, fv 79 0] f f1 = (mx [89, fv 79 15, 100, 101, 102, fv 79 45, fv 79 46, fv 79 0] f f1) from (rfl).symm] at hk
        exact hk
    · obtain ⟨rfl, i, jv, f1, rfl, rfl, rfl, rfl, hw, hnE, hnr, hrow, hz, hi, hz2, hzj, hm⟩ := hI
      have hg1 := hg.1
      refine ⟨fun (hh_14 : jv < f (fv 79 13) 0) => ?_, fun (hh_14 : ¬ jv < f (fv 79 13) 0) => ?_⟩
      · refine ⟨show 0 ≤ (i : Int) ∧ i < 60 from by omega, ?_⟩
        refine ⟨fun (hh_15 : f 88 i = 29) => ?_, fun (hh_15 : ¬ f 88 i = 29) => ?_⟩
        · refine ⟨show inr (jv + 1) from by constructor <;> omega, ?_⟩
          refine hB ((13 - i) * 20 - (jv + 1) : Int).toNat ?_ (Or.inr (Or.inr (⟨rfl, i, (jv + 1), f1, rfl, rfl, rfl, rfl, ?_, ?_, ?_, ?_, ?_, ?_, ?_, ?_, ?_⟩)))
          · omega
          · omega
          · exact hnE
          · exact hnr
          · first | assumption | exact hrow
          · exact hz
          · omega
          · exact hz2
          · intro j2 s2 t2 h0 h1
            by_cases e : j2 = jv
            · rw [e] at h1; first | exact h1.2.2.2.1 (by assumption) | exact h1.2.2.2.2.1 (by assumption) | exact hno s2 t2 h1
            · exact hzj j2 s2 t2 (by omega) h1
          · omega
        · refine ⟨show 0 ≤ (jv : Int) ∧ jv < 60 from by omega, ?_⟩
          refine ⟨fun (hh_16 : f 88 jv = 29) => ?_, fun (hh_16 : ¬ f 88 jv = 29) => ?_⟩
          · refine ⟨show inr (jv + 1) from by constructor <;> omega, ?_⟩
            refine hB ((13 - i) * 20 - (jv + 1) : Int).toNat ?_ (Or.inr (Or.inr (⟨rfl, i, (jv + 1), f1, rfl, rfl, rfl, rfl, ?_, ?_, ?_, ?_, ?_, ?_, ?_, ?_, ?_⟩)))
            · omega
            · omega
            · exact hnE
            · exact hnr
            · first | assumption | exact hrow
            · exact hz
            · omega
            · exact hz2
            · intro j2 s2 t2 h0 h1
              by_cases e : j2 = jv
              · rw [e] at h1; first | exact h1.2.2.2.1 (by assumption) | exact h1.2.2.2.2.1 (by assumption) | exact hno s2 t2 h1
              · exact hzj j2 s2 t2 (by omega) h1
            · omega
          · refine hO (c_two (by omega) (show 0 ≤ i ∧ i < jv ∧ jv < (f (fv 79 13) 0) ∧ ¬ (f 88 i) = 29 ∧ ¬ (f 88 jv) = 29 from by omega) (show 0 ≤ (f (fv 79 4) 0) ∧ (f (fv 79 4) 0) ≤ 8 from hc) (show (pgB f) from hg) (show (oB f) from ho) (show (lB f) from hl) (show 0 ≤ (f (fv 79 12) 0) ∧ (f (fv 79 12) 0) ≤ 9999 from hday) (show (f1 (fv 79 15) 0) = (f (fv 79 13) 0) from hnr) (show ∀ k, 0 ≤ k → k < (f (fv 79 13) 0) → (f1 89 k) = (f 88 k) from hrow) (fun f1_17 (hh_18 : sol2 (EaR f) (f 88) (f (fv 79 13) 0) i jv (f1_17 (fv 79 45) 0) (f1_17 (fv 79 46) 0)) (hh_19 : ∀ s t, sol2 (EaR f) (f 88) (f (fv 79 13) 0) i jv s t → f1_17 (fv 79 45) 0 < s ∨ (f1_17 (fv 79 45) 0 = s ∧ f1_17 (fv 79 46) 0 ≤ t)) (hh_20 : ∀ k, 0 ≤ k → k < (f (fv 79 13) 0) → f1_17 89 k = (f 88 k)) => ?_) (fun f1_21 (hh_22 : ∀ s t, ¬ sol2 (EaR f) (f 88) (f (fv 79 13) 0) i jv s t) (hh_23 : ∀ k, 0 ≤ k → k < (f (fv 79 13) 0) → f1_21 89 k = (f 88 k)) => ?_))
            · have hs2 := hh_18
              have hmin := hh_19
              refine ⟨fun h => absurd (show (1 : Int) = 0 from h) (by decide), fun _ => ?_⟩
              refine ⟨fun (hh_24 : w = 0) => ?_, fun (hh_24 : ¬ w = 0) => ?_⟩
              · have hk := k0 (an5 2 i (f1_17 (fv 79 45) 0) jv (f1_17 (fv 79 46) 0)) (2) (mx [89, 100, 101, 102, fv 79 45, fv 79 46] f1 f1_17) ⟨hw.1, hw.2.1⟩ (Or.inr (Or.inr (Or.inr (Or.inl ⟨hw.2.2, hnE, hz, rfl, hs2, fun i2 j2 s2 t2 h => by
                  show i < i2 ∨ (i = i2 ∧ (jv < j2 ∨ (jv = j2 ∧ (f1_17 (fv 79 45) 0 < s2 ∨ (f1_17 (fv 79 45) 0 = s2 ∧ f1_17 (fv 79 46) 0 ≤ t2)))))
                  by_cases e : i2 < i
                  · exact absurd h (hz2 i2 j2 s2 t2 e)
                  · by_cases e2 : i2 = i
                    · rw [e2] at h
                      by_cases e3 : j2 < jv
                      · exact absurd h (hzj j2 s2 t2 e3)
                      · by_cases e4 : j2 = jv
                        · rw [e4] at h; exact Or.inr ⟨e2.symm, Or.inr ⟨e4.symm, hmin s2 t2 h⟩⟩
                        · exact Or.inr ⟨e2.symm, Or.inl (by omega)⟩
                    · exact Or.inl (by omega)⟩)))) (by unfold an5; (repeat' split) <;> omega)
                rw [show mx [89, fv 79 15, 100, 101, 102, fv 79 45, fv 79 46, fv 79 0] f (mx [89, 100, 101, 102, fv 79 45, fv 79 46] f1 f1_17) = (mx [89, 100, 101, 102, fv 79 45, fv 79 46] (mx [89, fv 79 15, 100, 101, 102, fv 79 45, fv 79 46, fv 79 0] f f1) f1_17) from ((mx_mx rfl rfl)).symm] at hk
                exact hk
              · refine ⟨fun (hh_25 : w = 1) => ?_, fun (hh_25 : ¬ w = 1) => ?_⟩
                · have hk := k0 (an5 2 i (f1_17 (fv 79 45) 0) jv (f1_17 (fv 79 46) 0)) (i) (mx [89, 100, 101, 102, fv 79 45, fv 79 46] f1 f1_17) ⟨hw.1, hw.2.1⟩ (Or.inr (Or.inr (Or.inr (Or.inl ⟨hw.2.2, hnE, hz, rfl, hs2, fun i2 j2 s2 t2 h => by
                    show i < i2 ∨ (i = i2 ∧ (jv < j2 ∨ (jv = j2 ∧ (f1_17 (fv 79 45) 0 < s2 ∨ (f1_17 (fv 79 45) 0 = s2 ∧ f1_17 (fv 79 46) 0 ≤ t2)))))
                    by_cases e : i2 < i
                    · exact absurd h (hz2 i2 j2 s2 t2 e)
                    · by_cases e2 : i2 = i
                      · rw [e2] at h
                        by_cases e3 : j2 < jv
                        · exact absurd h (hzj j2 s2 t2 e3)
                        · by_cases e4 : j2 = jv
                          · rw [e4] at h; exact Or.inr ⟨e2.symm, Or.inr ⟨e4.symm, hmin s2 t2 h⟩⟩
                          · exact Or.inr ⟨e2.symm, Or.inl (by omega)⟩
                      · exact Or.inl (by omega)⟩)))) (by unfold an5; (repeat' split) <;> omega)
                  rw [show mx [89, fv 79 15, 100, 101, 102, fv 79 45, fv 79 46, fv 79 0] f (mx [89, 100, 101, 102, fv 79 45, fv 79 46] f1 f1_17) = (mx [89, 100, 101, 102, fv 79 45, fv 79 46] (mx [89, fv 79 15, 100, 101, 102, fv 79 45, fv 79 46, fv 79 0] f f1) f1_17) from ((mx_mx rfl rfl)).symm] at hk
                  exact hk
                · refine ⟨fun (hh_26 : w = 2) => ?_, fun (hh_26 : ¬ w = 2) => ?_⟩
                  · have hk := k0 (an5 2 i (f1_17 (fv 79 45) 0) jv (f1_17 (fv 79 46) 0)) (f1_17 (fv 79 45) 0) (mx [89, 100, 101, 102, fv 79 45, fv 79 46] f1 f1_17) ⟨hw.1, hw.2.1⟩ (Or.inr (Or.inr (Or.inr (Or.inl ⟨hw.2.2, hnE, hz, rfl, hs2, fun i2 j2 s2 t2 h => by
                      show i < i2 ∨ (i = i2 ∧ (jv < j2 ∨ (jv = j2 ∧ (f1_17 (fv 79 45) 0 < s2 ∨ (f1_17 (fv 79 45) 0 = s2 ∧ f1_17 (fv 79 46) 0 ≤ t2)))))
                      by_cases e : i2 < i
                      · exact absurd h (hz2 i2 j2 s2 t2 e)
                      · by_cases e2 : i2 = i
                        · rw [e2] at h
                          by_cases e3 : j2 < jv
                          · exact absurd h (hzj j2 s2 t2 e3)
                          · by_cases e4 : j2 = jv
                            · rw [e4] at h; exact Or.inr ⟨e2.symm, Or.inr ⟨e4.symm, hmin s2 t2 h⟩⟩
                            · exact Or.inr ⟨e2.symm, Or.inl (by omega)⟩
                        · exact Or.inl (by omega)⟩)))) (by unfold an5; (repeat' split) <;> omega)
                    rw [show mx [89, fv 79 15, 100, 101, 102, fv 79 45, fv 79 46, fv 79 0] f (mx [89, 100, 101, 102, fv 79 45, fv 79 46] f1 f1_17) = (mx [89, 100, 101, 102, fv 79 45, fv 79 46] (mx [89, fv 79 15, 100, 101, 102, fv 79 45, fv 79 46, fv 79 0] f f1) f1_17) from ((mx_mx rfl rfl)).symm] at hk
                    exact hk
                  · refine ⟨fun (hh_27 : w = 3) => ?_, fun (hh_27 : ¬ w = 3) => ?_⟩
                    · have hk := k0 (an5 2 i (f1_17 (fv 79 45) 0) jv (f1_17 (fv 79 46) 0)) (jv) (mx [89, 100, 101, 102, fv 79 45, fv 79 46] f1 f1_17) ⟨hw.1, hw.2.1⟩ (Or.inr (Or.inr (Or.inr (Or.inl ⟨hw.2.2, hnE, hz, rfl, hs2, fun i2 j2 s2 t2 h => by
                        show i < i2 ∨ (i = i2 ∧ (jv < j2 ∨ (jv = j2 ∧ (f1_17 (fv 79 45) 0 < s2 ∨ (f1_17 (fv 79 45) 0 = s2 ∧ f1_17 (fv 79 46) 0 ≤ t2)))))
                        by_cases e : i2 < i
                        · exact absurd h (hz2 i2 j2 s2 t2 e)
                        · by_cases e2 : i2 = i
                          · rw [e2] at h
                            by_cases e3 : j2 < jv
                            · exact absurd h (hzj j2 s2 t2 e3)
                            · by_cases e4 : j2 = jv
                              · rw [e4] at h; exact Or.inr ⟨e2.symm, Or.inr ⟨e4.symm, hmin s2 t2 h⟩⟩
                              · exact Or.inr ⟨e2.symm, Or.inl (by omega)⟩
                          · exact Or.inl (by omega)⟩)))) (by unfold an5; (repeat' split) <;> omega)
                      rw [show mx [89, fv 79 15, 100, 101, 102, fv 79 45, fv 79 46, fv 79 0] f (mx [89, 100, 101, 102, fv 79 45, fv 79 46] f1 f1_17) = (mx [89, 100, 101, 102, fv 79 45, fv 79 46] (mx [89, fv 79 15, 100, 101, 102, fv 79 45, fv 79 46, fv 79 0] f f1) f1_17) from ((mx_mx rfl rfl)).symm] at hk
                      exact hk
                    · have hk := k0 (an5 2 i (f1_17 (fv 79 45) 0) jv (f1_17 (fv 79 46) 0)) (f1_17 (fv 79 46) 0) (mx [89, 100, 101, 102, fv 79 45, fv 79 46] f1 f1_17) ⟨hw.1, hw.2.1⟩ (Or.inr (Or.inr (Or.inr (Or.inl ⟨hw.2.2, hnE, hz, rfl, hs2, fun i2 j2 s2 t2 h => by
                        show i < i2 ∨ (i = i2 ∧ (jv < j2 ∨ (jv = j2 ∧ (f1_17 (fv 79 45) 0 < s2 ∨ (f1_17 (fv 79 45) 0 = s2 ∧ f1_17 (fv 79 46) 0 ≤ t2)))))
                        by_cases e : i2 < i
                        · exact absurd h (hz2 i2 j2 s2 t2 e)
                        · by_cases e2 : i2 = i
                          · rw [e2] at h
                            by_cases e3 : j2 < jv
                            · exact absurd h (hzj j2 s2 t2 e3)
                            · by_cases e4 : j2 = jv
                              · rw [e4] at h; exact Or.inr ⟨e2.symm, Or.inr ⟨e4.symm, hmin s2 t2 h⟩⟩
                              · exact Or.inr ⟨e2.symm, Or.inl (by omega)⟩
                          · exact Or.inl (by omega)⟩)))) (by unfold an5; (repeat' split) <;> omega)
                      rw [show mx [89, fv 79 15, 100, 101, 102, fv 79 45, fv 79 46, fv 79 0] f (mx [89, 100, 101, 102, fv 79 45, fv 79 46] f1 f1_17) = (mx [89, 100, 101, 102, fv 79 45, fv 79 46] (mx [89, fv 79 15, 100, 101, 102, fv 79 45, fv 79 46, fv 79 0] f f1) f1_17) from ((mx_mx rfl rfl)).symm] at hk
                      exact hk
            · have hno := hh_22
              refine ⟨fun _ => ?_, fun h => absurd (show (0 : Int) = 0 from by decide) h⟩
              refine ⟨show inr (jv + 1) from by constructor <;> omega, ?_⟩
              refine hB ((13 - i) * 20 - (jv + 1) : Int).toNat ?_ (Or.inr (Or.inr (⟨rfl, i, (jv + 1), (mx [89, 100, 101, 102, fv 79 45, fv 79 46] f1 f1_21), rfl, rfl, (mx_mx rfl rfl), rfl, ?_, ?_, ?_, ?_, ?_, ?_, ?_, ?_, ?_⟩)))
              · omega
              · omega
              · exact hnE
              · exact hnr
              · first | assumption | exact hrow
              · exact hz
              · omega
              · exact hz2
              · intro j2 s2 t2 h0 h1
                by_cases e : j2 = jv
                · rw [e] at h1; first | exact h1.2.2.2.1 (by assumption) | exact h1.2.2.2.2.1 (by assumption) | exact hno s2 t2 h1
                · exact hzj j2 s2 t2 (by omega) h1
              · omega
      · refine ⟨show inr (i + 1) from by constructor <;> omega, ?_⟩
        refine hB ((13 - (i + 1)) * 20 : Int).toNat ?_ (Or.inr (Or.inl ⟨rfl, (i + 1), f1, rfl, rfl, rfl, rfl, ?_, ?_, ?_, ?_, ?_, ?_, ?_, ?_⟩))
        · omega
        · omega
        · exact hnE
        · exact hnr
        · first | assumption | exact hrow
        · exact hz
        · omega
        · intro i2 j2 s2 t2 h0 h1
          by_cases e : i2 = i
          · rw [e] at h1
            by_cases e2 : j2 < jv
            · exact hzj j2 s2 t2 e2 h1
            · exact absurd h1.2.2.1 (by omega)
          · exact hz2 i2 j2 s2 t2 (by omega) h1
        · omega
  · have hg1 := hg.1
    refine ⟨fun (hh_28 : 12 < f (fv 79 13) 0) => ?_, fun (hh_28 : ¬ 12 < f (fv 79 13) 0) => ?_⟩
    · by_cases hw : 0 ≤ w ∧ w ≤ 4
      · first
        | (exfalso; omega)
        | (have hk := k0 (fun _ => -1) (-1) (wv f (fv 79 0) 0 0) hw (Or.inl ⟨by omega, fun _ _ _ => rfl⟩) rfl; rw [show mx [89, fv 79 15, 100, 101, 102, fv 79 45, fv 79 46, fv 79 0] f (wv f (fv 79 0) 0 0) = (wv f (fv 79 0) 0 0) from ((mx_wv rfl mx_rf)).symm] at hk; exact hk)
      · exact k1 hw
    · refine hO (c_isIn (by omega) (fun (hh_29 : 0 ≤ w) (hh_30 : w ≤ 4) => ?_) (fun (hh_31 : ¬ (0 ≤ w ∧ w ≤ 4)) => ?_))
      · refine ⟨fun h => absurd (show (1 : Int) = 0 from h) (by decide), fun _ => ?_⟩
        refine hO (c_thinks (by omega) (show (pgB f) from hg) (fun f1_32 (hh_33 : f1_32 (fv 79 15) 0 = (f (fv 79 13) 0)) (hh_34 : ∀ i, 0 ≤ i → i < (f (fv 79 13) 0) → f1_32 89 i = (f 88 i)) => ?_))
        have hnr := hh_33
        have hrow := hh_34
        refine hO (c_doAllEat (by omega) (show 0 ≤ (f (fv 79 4) 0) ∧ (f (fv 79 4) 0) ≤ 8 from hc) (show (rwB (mx [89, fv 79 15] f f1_32)) from rwB_of hnr hrow hg) (show (oB f) from ho) (show (lB f) from hl) (show 0 ≤ (f (fv 79 12) 0) ∧ (f (fv 79 12) 0) ≤ 9999 from hday) (fun f1_35 (hh_36 : alE (aR f) (oR f) (f (fv 79 12) 0) (lwR f) (f 82) (f 83) (f 87) (f (fv 79 4) 0) (f1_32 89) (f1_32 (fv 79 15) 0)) => ?_) (fun f1_37 (hh_38 : ¬ alE (aR f) (oR f) (f (fv 79 12) 0) (lwR f) (f 82) (f 83) (f 87) (f (fv 79 4) 0) (f1_32 89) (f1_32 (fv 79 15) 0)) => ?_))
        · have hE0 := (EaR_row hnr hrow).mp hh_36
          refine ⟨fun h => absurd (show (1 : Int) = 0 from h) (by decide), fun _ => ?_⟩
          refine ⟨fun (hh_39 : w = 0) => ?_, fun (hh_39 : ¬ w = 0) => ?_⟩
          · have hk := k0 (an5 0 (-1) (-1) (-1) (-1)) (0) (mx [100, 101, 102] (mx [89, fv 79 15] (wv f (fv 79 0) 0 0) f1_32) f1_35) (by omega) (Or.inr (Or.inl ⟨by omega, hE0, rfl, fun k h0 h1 => by unfold an5; (repeat' split) <;> omega⟩)) (by unfold an5; (repeat' split) <;> omega)
            rw [show mx [89, fv 79 15, 100, 101, 102, fv 79 45, fv 79 46, fv 79 0] f (mx [100, 101, 102] (mx [89, fv 79 15] (wv f (fv 79 0) 0 0) f1_32) f1_35) = (mx [100, 101, 102] (mx [89, fv 79 15] (wv f (fv 79 0) 0 0) f1_32) f1_35) from ((mx_mx rfl (mx_mx rfl (mx_wv rfl mx_rf)))).symm] at hk
            exact hk
          · have hk := k0 (an5 0 (-1) (-1) (-1) (-1)) ((-1)) (mx [100, 101, 102] (mx [89, fv 79 15] (wv f (fv 79 0) 0 0) f1_32) f1_35) (by omega) (Or.inr (Or.inl ⟨by omega, hE0, rfl, fun k h0 h1 => by unfold an5; (repeat' split) <;> omega⟩)) (by unfold an5; (repeat' split) <;> omega)
            rw [show mx [89, fv 79 15, 100, 101, 102, fv 79 45, fv 79 46, fv 79 0] f (mx [100, 101, 102] (mx [89, fv 79 15] (wv f (fv 79 0) 0 0) f1_32) f1_35) = (mx [100, 101, 102] (mx [89, fv 79 15] (wv f (fv 79 0) 0 0) f1_32) f1_35) from ((mx_mx rfl (mx_mx rfl (mx_wv rfl mx_rf)))).symm] at hk
            exact hk
        · have hnE : ¬ EaR f (f 88) := fun h => hh_38 ((EaR_row hnr hrow).mpr h)
          refine ⟨fun _ => ?_, fun h => absurd (show (0 : Int) = 0 from by decide) h⟩
          refine hF (600 - 0 : Int).toNat ?_ (Or.inl ⟨rfl, 0, (mx [100, 101, 102] (mx [89, fv 79 15] (wv f (fv 79 0) 0 0) f1_32) f1_37), rfl, rfl, (mx_mx rfl (mx_mx rfl (mx_wv rfl mx_rf))), rfl, ?_, ?_, ?_, ?_, ?_, ?_, ?_⟩)
          · omega
          · omega
          · exact hnE
          · exact hnr
          · first | assumption | exact hrow
          · omega
          · intro i2 s2 h0 h1; exact absurd h1.1 (by omega)
          · omega
      · refine ⟨fun _ => ?_, fun h => absurd (show (0 : Int) = 0 from by decide) h⟩
        by_cases hw : 0 ≤ w ∧ w ≤ 4
        · first
          | (exfalso; omega)
          | (have hk := k0 (fun _ => -1) (-1) (wv f (fv 79 0) 0 0) hw (Or.inl ⟨by omega, fun _ _ _ => rfl⟩) rfl; rw [show mx [89, fv 79 15, 100, 101, 102, fv 79 45, fv 79 46, fv 79 0] f (wv f (fv 79 0) 0 0) = (wv f (fv 79 0) 0 0) from ((mx_wv rfl mx_rf)).symm] at hk; exact hk)
        · exact k1 hw
end C19
