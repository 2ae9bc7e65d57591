section C10
variable {d : Nat} {f : iF} {g : iG} {Q : Option iv → iF → iG → Prop}
/-! ===== the class: earnings ===== -/
/-- what apprentice a gets at place i -/
def enH (ab : Int → Bool) (ow : Int → Int) (day : Int) (w : Lw) (row : Int → Int) (n a : Int) : Int → Int := fun i => if ab (row i) = true ∧ ow (row i) = a then pyI ab ow day w row n i else 0
theorem enI_eq {ab : Int → Bool} {ow : Int → Int} {day : Int} {w : Lw} {row : Int → Int} {n a : Int} : enI ab ow day w row n a = sI (enH ab ow day w row n a) n := rfl
theorem enH_r {ab : Int → Bool} {ow : Int → Int} {day : Int} {w : Lw} {row : Int → Int} {n a i : Int} : 0 ≤ enH ab ow day w row n a i ∧ enH ab ow day w row n a i ≤ 99 := by
  unfold enH
  split
  · exact pyI_r
  · decide
theorem enH_t {ab : Int → Bool} {ow : Int → Int} {day : Int} {w : Lw} {row : Int → Int} {n a i : Int} (h : ab (row i) = true) (h2 : ow (row i) = a) : enH ab ow day w row n a i = pyI ab ow day w row n i := by unfold enH; rw [if_pos ⟨h, h2⟩]
theorem enH_f {ab : Int → Bool} {ow : Int → Int} {day : Int} {w : Lw} {row : Int → Int} {n a i : Int} (h : ab (row i) = false) : enH ab ow day w row n a i = 0 := by unfold enH; rw [h, if_neg (fun e => by cases e.1)]
theorem enH_o {ab : Int → Bool} {ow : Int → Int} {day : Int} {w : Lw} {row : Int → Int} {n a i : Int} (h : ¬ ow (row i) = a) : enH ab ow day w row n a i = 0 := by unfold enH; rw [if_neg (fun e => h e.2)]
set_option maxRecDepth 100000 in
set_option maxHeartbeats 4000000 in
theorem k_earnsFrom_pg {fm ap : Int} (hd : 4 ≤ d) (hfm : 0 ≤ fm ∧ fm ≤ (f (fv 10 1) 0)) (hst : fm = 0 ∨ isL (f 11) (f (fv 10 1) 0) (fm - 1) = false) (hrw : rowB (f (fv 10 1) 0) 60 (f 11)) (hcb : (coB f)) (hab : (abOK f)) (hl : (lC f)) (hA : lwask (f (fv 15 5) 0) (lwC f)) (hday : 0 ≤ (f (fv 1 15) 0) ∧ (f (fv 1 15) 0) ≤ 9999) (hmo : mOK (lwC f) g) (k0 : ∀ f1 : iF, ∀ g1 : iG, (mOK (lwC f) g1) → Q (some (iI (sI (enH (aC f) (f 7) (f (fv 1 15) 0) (lwC f) (f 11) (f (fv 10 1) 0) ap) (f (fv 10 1) 0) - sI (enH (aC f) (f 7) (f (fv 1 15) 0) (lwC f) (f 11) (f (fv 10 1) 0) ap) fm))) (mx [56, 57, 58] f f1) g1) : wq d 150 [iR 54, iR 10, iI fm, iI ap] f g Q := by
  obtain ⟨d, rfl⟩ : ∃ e, d = e + 1 := ⟨d - 1, by omega⟩
  refine i_meth [(10, 6)] (fun n j lv st f' g' => (j = 10 ∧ ∃ (sm : Int) (i : Int) (f1 : iF) (g1 : iG), lv = [some (iR 54), some (iR 10), some (iI fm), some (iI ap), some (iI sm), some (iI i)] ∧ st = [] ∧ f' = (mx [56, 57, 58] f f1) ∧ g1 = g' ∧ (fm ≤ i ∧ i ≤ (f (fv 10 1) 0)) ∧ (sm = sI (enH (aC f) (f 7) (f (fv 1 15) 0) (lwC f) (f 11) (f (fv 10 1) 0) ap) i - sI (enH (aC f) (f 7) (f (fv 1 15) 0) (lwC f) (f 11) (f (fv 10 1) 0) ap) fm) ∧ (0 ≤ sm ∧ sm ≤ 99 * i) ∧ (bit (f (fv 15 5) 0) 2 = true → ∀ j, fm ≤ j → j < (f (fv 10 1) 0) → f1 56 j = lgI (aC f) (f 11) (f (fv 10 1) 0) j) ∧ (mOK (lwC f) g1) ∧ (n : Int) = (f (fv 10 1) 0) - i)) 60 (by omega) rfl rfl (fun n j lv st f' g' hn hI O J hO hF hB => ?_) (fun hvs hin O J hO hF => ?_)
  · obtain ⟨rfl, sm, i, f1, g1, rfl, rfl, rfl, rfl, hi, hs, hsb, hlj, hmo1, hm⟩ := hI
    have hrw1 := hrw.1
    have hcb1 := hcb.1
    refine ⟨fun (hh_1 : i < f (fv 10 1) 0) => ?_, fun (hh_1 : ¬ i < f (fv 10 1) 0) => ?_⟩
    · have hri := hrw.2 i (by omega) (by omega)
      refine ⟨fun _ => ?_, fun h => absurd (show i < 60 from by omega) h⟩
      refine hO (k_get_pg (by omega) (show 0 ≤ i ∧ i < 60 from by omega) ?_)
      refine hO (k_isAble (by omega) (show (abOK f) from hab) (fun (hh_2 : (aC f) (f 11 i) = true) => ?_) (fun (hh_3 : (aC f) (f 11 i) = false) => ?_))
      · have hai := aC_in _ hh_2
        have hcs := hcb.2 (f 11 i) (by omega) (by omega)
        refine ⟨fun h => absurd (show (1 : Int) = 0 from h) (by decide), fun _ => ?_⟩
        refine ⟨show 0 ≤ ((f 11 i) : Int) ∧ (f 11 i) < 29 from by omega, ?_⟩
        refine ⟨fun (hh_4 : f 7 (f 11 i) = ap) => ?_, fun (hh_4 : ¬ f 7 (f 11 i) = ap) => ?_⟩
        · refine hO (k_payAt_pg (by omega) (show 0 ≤ i ∧ i < (f (fv 10 1) 0) from by omega) (show rowB (f (fv 10 1) 0) 60 (f 11) from hrw) (show (f 11 i) < 29 from by have := aC_in _ ‹aC f _ = true›; omega) (show bit (f (fv 15 5) 0) 2 = true → (f1 56 i) = lgI (aC f) (f 11) (f (fv 10 1) 0) i from fun h => hlj h i (by omega) (by omega)) (show (coB f) from hcb) (show (abOK f) from hab) (show (lC f) from hl) (show lwask (f (fv 15 5) 0) (lwC f) from hA) (show 0 ≤ (f (fv 1 15) 0) ∧ (f (fv 1 15) 0) ≤ 9999 from hday) (show mOK (lwC f) g1 from hmo1) (fun f1_5 g1_6 (hh_7 : mOK (lwC f) g1_6) => ?_))
          have hpr := pyI_r (ab := aC f) (ow := f 7) (day := f (fv 1 15) 0) (w := lwC f) (row := (f 11)) (n := (f (fv 10 1) 0)) (i := i)
          refine Or.inl ⟨show inr (sm + (pyI (aC f) (f 7) (f (fv 1 15) 0) (lwC f) (f 11) (f (fv 10 1) 0) i)) from by constructor <;> omega, ?_⟩
          refine ⟨show inr (i + 1) from by constructor <;> omega, ?_⟩
          refine hB ((f (fv 10 1) 0) - (i + 1) : Int).toNat ?_ ⟨rfl, (sm + (pyI (aC f) (f 7) (f (fv 1 15) 0) (lwC f) (f 11) (f (fv 10 1) 0) i)), (i + 1), (mx [57, 58] f1 f1_5), g1_6, rfl, rfl, (mx_mx rfl rfl), rfl, ?_, ?_, ?_, ?_, ?_, ?_⟩
          · omega
          · omega
          · first | (rw [sI_s (by omega), enH_t ‹aC f _ = true› ‹_ = ap›]; omega) | (rw [sI_s (by omega), enH_f ‹aC f _ = false›]; omega) | (rw [sI_s (by omega), enH_o ‹¬ _ = ap›]; omega)
          · omega
          · exact hlj
          · first | assumption | exact hmo1
          · omega
        · refine ⟨show inr (i + 1) from by constructor <;> omega, ?_⟩
          refine hB ((f (fv 10 1) 0) - (i + 1) : Int).toNat ?_ ⟨rfl, sm, (i + 1), f1, g1, rfl, rfl, rfl, rfl, ?_, ?_, ?_, ?_, ?_, ?_⟩
          · omega
          · omega
          · first | (rw [sI_s (by omega), enH_t ‹aC f _ = true› ‹_ = ap›]; omega) | (rw [sI_s (by omega), enH_f ‹aC f _ = false›]; omega) | (rw [sI_s (by omega), enH_o ‹¬ _ = ap›]; omega)
          · omega
          · exact hlj
          · first | assumption | exact hmo1
          · omega
      · refine ⟨fun _ => ?_, fun h => absurd (show (0 : Int) = 0 from by decide) h⟩
        refine ⟨show inr (i + 1) from by constructor <;> omega, ?_⟩
        refine hB ((f (fv 10 1) 0) - (i + 1) : Int).toNat ?_ ⟨rfl, sm, (i + 1), f1, g1, rfl, rfl, rfl, rfl, ?_, ?_, ?_, ?_, ?_, ?_⟩
        · omega
        · omega
        · first | (rw [sI_s (by omega), enH_t ‹aC f _ = true› ‹_ = ap›]; omega) | (rw [sI_s (by omega), enH_f ‹aC f _ = false›]; omega) | (rw [sI_s (by omega), enH_o ‹¬ _ = ap›]; omega)
        · omega
        · exact hlj
        · first | assumption | exact hmo1
        · omega
    · rw [show i = (f (fv 10 1) 0) by omega] at hs
      rw [← hs] at k0
      exact k0 f1 g1 hmo1
  · have hrw1 := hrw.1
    refine hO (k_measure_pg (by omega) (show 0 ≤ fm ∧ fm ≤ (f (fv 10 1) 0) from hfm) (show fm = 0 ∨ isL (f 11) (f (fv 10 1) 0) (fm - 1) = false from hst) (show rowB (f (fv 10 1) 0) 60 (f 11) from hrw) (show (abOK f) from hab) (fun f1_8 (hh_9 : bit (f (fv 15 5) 0) 2 = true → ∀ j, fm ≤ j → j < (f (fv 10 1) 0) → f1_8 56 j = lgI (aC f) (f 11) (f (fv 10 1) 0) j) (hh_10 : ∀ j, 0 ≤ j → j < fm → f1_8 56 j = (f 56 j)) => ?_))
    refine hF ((f (fv 10 1) 0) - (max fm 0) : Int).toNat ?_ ⟨rfl, 0, (max fm 0), (mx [56] f f1_8), g, rfl, rfl, (mx_mx rfl mx_rf), rfl, ?_, ?_, ?_, ?_, ?_, ?_⟩
    · omega
    · omega
    · rw [show max fm 0 = fm by omega]; omega
    · omega
    · assumption
    · exact hmo
    · omega
set_option maxRecDepth 100000 in
set_option maxHeartbeats 4000000 in
theorem k_earnsFrom_rm {fm ap : Int} (hd : 4 ≤ d) (hfm : 0 ≤ fm ∧ fm ≤ (f (fv 64 1) 0)) (hst : fm = 0 ∨ isL (f 65) (f (fv 64 1) 0) (fm - 1) = false) (hrw : rowB (f (fv 64 1) 0) 12 (f 65)) (hcb : (coB f)) (hab : (abOK f)) (hl : (lC f)) (hA : lwask (f (fv 15 5) 0) (lwC f)) (hday : 0 ≤ (f (fv 1 15) 0) ∧ (f (fv 1 15) 0) ≤ 9999) (hmo : mOK (lwC f) g) (k0 : ∀ f1 : iF, ∀ g1 : iG, (mOK (lwC f) g1) → Q (some (iI (sI (enH (aC f) (f 7) (f (fv 1 15) 0) (lwC f) (f 65) (f (fv 64 1) 0) ap) (f (fv 64 1) 0) - sI (enH (aC f) (f 7) (f (fv 1 15) 0) (lwC f) (f 65) (f (fv 64 1) 0) ap) fm))) (mx [56, 57, 58] f f1) g1) : wq d 150 [iR 54, iR 64, iI fm, iI ap] f g Q := by
  obtain ⟨d, rfl⟩ : ∃ e, d = e + 1 := ⟨d - 1, by omega⟩
  refine i_meth [(10, 6)] (fun n j lv st f' g' => (j = 10 ∧ ∃ (sm : Int) (i : Int) (f1 : iF) (g1 : iG), lv = [some (iR 54), some (iR 64), some (iI fm), some (iI ap), some (iI sm), some (iI i)] ∧ st = [] ∧ f' = (mx [56, 57, 58] f f1) ∧ g1 = g' ∧ (fm ≤ i ∧ i ≤ (f (fv 64 1) 0)) ∧ (sm = sI (enH (aC f) (f 7) (f (fv 1 15) 0) (lwC f) (f 65) (f (fv 64 1) 0) ap) i - sI (enH (aC f) (f 7) (f (fv 1 15) 0) (lwC f) (f 65) (f (fv 64 1) 0) ap) fm) ∧ (0 ≤ sm ∧ sm ≤ 99 * i) ∧ (bit (f (fv 15 5) 0) 2 = true → ∀ j, fm ≤ j → j < (f (fv 64 1) 0) → f1 56 j = lgI (aC f) (f 65) (f (fv 64 1) 0) j) ∧ (mOK (lwC f) g1) ∧ (n : Int) = (f (fv 64 1) 0) - i)) 60 (by omega) rfl rfl (fun n j lv st f' g' hn hI O J hO hF hB => ?_) (fun hvs hin O J hO hF => ?_)
  · obtain ⟨rfl, sm, i, f1, g1, rfl, rfl, rfl, rfl, hi, hs, hsb, hlj, hmo1, hm⟩ := hI
    have hrw1 := hrw.1
    have hcb1 := hcb.1
    refine ⟨fun (hh_1 : i < f (fv 64 1) 0) => ?_, fun (hh_1 : ¬ i < f (fv 64 1) 0) => ?_⟩
    · have hri := hrw.2 i (by omega) (by omega)
      refine ⟨fun _ => ?_, fun h => absurd (show i < 60 from by omega) h⟩
      refine hO (k_get_rm (by omega) (show 0 ≤ i ∧ i < 12 from by omega) ?_)
      refine hO (k_isAble (by omega) (show (abOK f) from hab) (fun (hh_2 : (aC f) (f 65 i) = true) => ?_) (fun (hh_3 : (aC f) (f 65 i) = false) => ?_))
      · have hai := aC_in _ hh_2
        have hcs := hcb.2 (f 65 i) (by omega) (by omega)
        refine ⟨fun h => absurd (show (1 : Int) = 0 from h) (by decide), fun _ => ?_⟩
        refine ⟨show 0 ≤ ((f 65 i) : Int) ∧ (f 65 i) < 29 from by omega, ?_⟩
        refine ⟨fun (hh_4 : f 7 (f 65 i) = ap) => ?_, fun (hh_4 : ¬ f 7 (f 65 i) = ap) => ?_⟩
        · refine hO (k_payAt_rm (by omega) (show 0 ≤ i ∧ i < (f (fv 64 1) 0) from by omega) (show rowB (f (fv 64 1) 0) 12 (f 65) from hrw) (show (f 65 i) < 29 from by have := aC_in _ ‹aC f _ = true›; omega) (show bit (f (fv 15 5) 0) 2 = true → (f1 56 i) = lgI (aC f) (f 65) (f (fv 64 1) 0) i from fun h => hlj h i (by omega) (by omega)) (show (coB f) from hcb) (show (abOK f) from hab) (show (lC f) from hl) (show lwask (f (fv 15 5) 0) (lwC f) from hA) (show 0 ≤ (f (fv 1 15) 0) ∧ (f (fv 1 15) 0) ≤ 9999 from hday) (show mOK (lwC f) g1 from hmo1) (fun f1_5 g1_6 (hh_7 : mOK (lwC f) g1_6) => ?_))
          have hpr := pyI_r (ab := aC f) (ow := f 7) (day := f (fv 1 15) 0) (w := lwC f) (row := (f 65)) (n := (f (fv 64 1) 0)) (i := i)
          refine Or.inl ⟨show inr (sm + (pyI (aC f) (f 7) (f (fv 1 15) 0) (lwC f) (f 65) (f (fv 64 1) 0) i)) from by constructor <;> omega, ?_⟩
          refine ⟨show inr (i + 1) from by constructor <;> omega, ?_⟩
          refine hB ((f (fv 64 1) 0) - (i + 1) : Int).toNat ?_ ⟨rfl, (sm + (pyI (aC f) (f 7) (f (fv 1 15) 0) (lwC f) (f 65) (f (fv 64 1) 0) i)), (i + 1), (mx [57, 58] f1 f1_5), g1_6, rfl, rfl, (mx_mx rfl rfl), rfl, ?_, ?_, ?_, ?_, ?_, ?_⟩
          · omega
          · omega
          · first | (rw [sI_s (by omega), enH_t ‹aC f _ = true› ‹_ = ap›]; omega) | (rw [sI_s (by omega), enH_f ‹aC f _ = false›]; omega) | (rw [sI_s (by omega), enH_o ‹¬ _ = ap›]; omega)
          · omega
          · exact hlj
          · first | assumption | exact hmo1
          · omega
        · refine ⟨show inr (i + 1) from by constructor <;> omega, ?_⟩
          refine hB ((f (fv 64 1) 0) - (i + 1) : Int).toNat ?_ ⟨rfl, sm, (i + 1), f1, g1, rfl, rfl, rfl, rfl, ?_, ?_, ?_, ?_, ?_, ?_⟩
          · omega
          · omega
          · first | (rw [sI_s (by omega), enH_t ‹aC f _ = true› ‹_ = ap›]; omega) | (rw [sI_s (by omega), enH_f ‹aC f _ = false›]; omega) | (rw [sI_s (by omega), enH_o ‹¬ _ = ap›]; omega)
          · omega
          · exact hlj
          · first | assumption | exact hmo1
          · omega
      · refine ⟨fun _ => ?_, fun h => absurd (show (0 : Int) = 0 from by decide) h⟩
        refine ⟨show inr (i + 1) from by constructor <;> omega, ?_⟩
        refine hB ((f (fv 64 1) 0) - (i + 1) : Int).toNat ?_ ⟨rfl, sm, (i + 1), f1, g1, rfl, rfl, rfl, rfl, ?_, ?_, ?_, ?_, ?_, ?_⟩
        · omega
        · omega
        · first | (rw [sI_s (by omega), enH_t ‹aC f _ = true› ‹_ = ap›]; omega) | (rw [sI_s (by omega), enH_f ‹aC f _ = false›]; omega) | (rw [sI_s (by omega), enH_o ‹¬ _ = ap›]; omega)
        · omega
        · exact hlj
        · first | assumption | exact hmo1
        · omega
    · rw [show i = (f (fv 64 1) 0) by omega] at hs
      rw [← hs] at k0
      exact k0 f1 g1 hmo1
  · have hrw1 := hrw.1
    refine hO (k_measure_rm (by omega) (show 0 ≤ fm ∧ fm ≤ (f (fv 64 1) 0) from hfm) (show fm = 0 ∨ isL (f 65) (f (fv 64 1) 0) (fm - 1) = false from hst) (show rowB (f (fv 64 1) 0) 12 (f 65) from hrw) (show (abOK f) from hab) (fun f1_8 (hh_9 : bit (f (fv 15 5) 0) 2 = true → ∀ j, fm ≤ j → j < (f (fv 64 1) 0) → f1_8 56 j = lgI (aC f) (f 65) (f (fv 64 1) 0) j) (hh_10 : ∀ j, 0 ≤ j → j < fm → f1_8 56 j = (f 56 j)) => ?_))
    refine hF ((f (fv 64 1) 0) - (max fm 0) : Int).toNat ?_ ⟨rfl, 0, (max fm 0), (mx [56] f f1_8), g, rfl, rfl, (mx_mx rfl mx_rf), rfl, ?_, ?_, ?_, ?_, ?_, ?_⟩
    · omega
    · omega
    · rw [show max fm 0 = fm by omega]; omega
    · omega
    · assumption
    · exact hmo
    · omega
set_option maxRecDepth 100000 in
set_option maxHeartbeats 4000000 in
theorem k_earnsFrom_bk {fm ap : Int} (hd : 4 ≤ d) (hfm : 0 ≤ fm ∧ fm ≤ (f (fv 74 1) 0)) (hst : fm = 0 ∨ isL (f 75) (f (fv 74 1) 0) (fm - 1) = false) (hrw : rowB (f (fv 74 1) 0) 60 (f 75)) (hcb : (coB f)) (hab : (abOK f)) (hl : (lC f)) (hA : lwask (f (fv 15 5) 0) (lwC f)) (hday : 0 ≤ (f (fv 1 15) 0) ∧ (f (fv 1 15) 0) ≤ 9999) (hmo : mOK (lwC f) g) (k0 : ∀ f1 : iF, ∀ g1 : iG, (mOK (lwC f) g1) → Q (some (iI (sI (enH (aC f) (f 7) (f (fv 1 15) 0) (lwC f) (f 75) (f (fv 74 1) 0) ap) (f (fv 74 1) 0) - sI (enH (aC f) (f 7) (f (fv 1 15) 0) (lwC f) (f 75) (f (fv 74 1) 0) ap) fm))) (mx [56, 57, 58] f f1) g1) : wq d 150 [iR 54, iR 74, iI fm, iI ap] f g Q := by
  obtain ⟨d, rfl⟩ : ∃ e, d = e + 1 := ⟨d - 1, by omega⟩
  refine i_meth [(10, 6)] (fun n j lv st f' g' => (j = 10 ∧ ∃ (sm : Int) (i : Int) (f1 : iF) (g1 : iG), lv = [some (iR 54), some (iR 74), some (iI fm), some (iI ap), some (iI sm), some (iI i)] ∧ st = [] ∧ f' = (mx [56, 57, 58] f f1) ∧ g1 = g' ∧ (fm ≤ i ∧ i ≤ (f (fv 74 1) 0)) ∧ (sm = sI (enH (aC f) (f 7) (f (fv 1 15) 0) (lwC f) (f 75) (f (fv 74 1) 0) ap) i - sI (enH (aC f) (f 7) (f (fv 1 15) 0) (lwC f) (f 75) (f (fv 74 1) 0) ap) fm) ∧ (0 ≤ sm ∧ sm ≤ 99 * i) ∧ (bit (f (fv 15 5) 0) 2 = true → ∀ j, fm ≤ j → j < (f (fv 74 1) 0) → f1 56 j = lgI (aC f) (f 75) (f (fv 74 1) 0) j) ∧ (mOK (lwC f) g1) ∧ (n : Int) = (f (fv 74 1) 0) - i)) 60 (by omega) rfl rfl (fun n j lv st f' g' hn hI O J hO hF hB => ?_) (fun hvs hin O J hO hF => ?_)
  · obtain ⟨rfl, sm, i, f1, g1, rfl, rfl, rfl, rfl, hi, hs, hsb, hlj, hmo1, hm⟩ := hI
    have hrw1 := hrw.1
    have hcb1 := hcb.1
    refine ⟨fun (hh_1 : i < f (fv 74 1) 0) => ?_, fun (hh_1 : ¬ i < f (fv 74 1) 0) => ?_⟩
    · have hri := hrw.2 i (by omega) (by omega)
      refine ⟨fun _ => ?_, fun h => absurd (show i < 60 from by omega) h⟩
      refine hO (k_get_bk (by omega) (show 0 ≤ i ∧ i < 60 from by omega) ?_)
      refine hO (k_isAble (by omega) (show (abOK f) from hab) (fun (hh_2 : (aC f) (f 75 i) = true) => ?_) (fun (hh_3 : (aC f) (f 75 i) = false) => ?_))
      · have hai := aC_in _ hh_2
        have hcs := hcb.2 (f 75 i) (by omega) (by omega)
        refine ⟨fun h => absurd (show (1 : Int) = 0 from h) (by decide), fun _ => ?_⟩
        refine ⟨show 0 ≤ ((f 75 i) : Int) ∧ (f 75 i) < 29 from by omega, ?_⟩
        refine ⟨fun (hh_4 : f 7 (f 75 i) = ap) => ?_, fun (hh_4 : ¬ f 7 (f 75 i) = ap) => ?_⟩
        · refine hO (k_payAt_bk (by omega) (show 0 ≤ i ∧ i < (f (fv 74 1) 0) from by omega) (show rowB (f (fv 74 1) 0) 60 (f 75) from hrw) (show (f 75 i) < 29 from by have := aC_in _ ‹aC f _ = true›; omega) (show bit (f (fv 15 5) 0) 2 = true → (f1 56 i) = lgI (aC f) (f 75) (f (fv 74 1) 0) i from fun h => hlj h i (by omega) (by omega)) (show (coB f) from hcb) (show (abOK f) from hab) (show (lC f) from hl) (show lwask (f (fv 15 5) 0) (lwC f) from hA) (show 0 ≤ (f (fv 1 15) 0) ∧ (f (fv 1 15) 0) ≤ 9999 from hday) (show mOK (lwC f) g1 from hmo1) (fun f1_5 g1_6 (hh_7 : mOK (lwC f) g1_6) => ?_))
          have hpr := pyI_r (ab := aC f) (ow := f 7) (day := f (fv 1 15) 0) (w := lwC f) (row := (f 75)) (n := (f (fv 74 1) 0)) (i := i)
          refine Or.inl ⟨show inr (sm + (pyI (aC f) (f 7) (f (fv 1 15) 0) (lwC f) (f 75) (f (fv 74 1) 0) i)) from by constructor <;> omega, ?_⟩
          refine ⟨show inr (i + 1) from by constructor <;> omega, ?_⟩
          refine hB ((f (fv 74 1) 0) - (i + 1) : Int).toNat ?_ ⟨rfl, (sm + (pyI (aC f) (f 7) (f (fv 1 15) 0) (lwC f) (f 75) (f (fv 74 1) 0) i)), (i + 1), (mx [57, 58] f1 f1_5), g1_6, rfl, rfl, (mx_mx rfl rfl), rfl, ?_, ?_, ?_, ?_, ?_, ?_⟩
          · omega
          · omega
          · first | (rw [sI_s (by omega), enH_t ‹aC f _ = true› ‹_ = ap›]; omega) | (rw [sI_s (by omega), enH_f ‹aC f _ = false›]; omega) | (rw [sI_s (by omega), enH_o ‹¬ _ = ap›]; omega)
          · omega
          · exact hlj
          · first | assumption | exact hmo1
          · omega
        · refine ⟨show inr (i + 1) from by constructor <;> omega, ?_⟩
          refine hB ((f (fv 74 1) 0) - (i + 1) : Int).toNat ?_ ⟨rfl, sm, (i + 1), f1, g1, rfl, rfl, rfl, rfl, ?_, ?_, ?_, ?_, ?_, ?_⟩
          · omega
          · omega
          · first | (rw [sI_s (by omega), enH_t ‹aC f _ = true› ‹_ = ap›]; omega) | (rw [sI_s (by omega), enH_f ‹aC f _ = false›]; omega) | (rw [sI_s (by omega), enH_o ‹¬ _ = ap›]; omega)
          · omega
          · exact hlj
          · first | assumption | exact hmo1
          · omega
      · refine ⟨fun _ => ?_, fun h => absurd (show (0 : Int) = 0 from by decide) h⟩
        refine ⟨show inr (i + 1) from by constructor <;> omega, ?_⟩
        refine hB ((f (fv 74 1) 0) - (i + 1) : Int).toNat ?_ ⟨rfl, sm, (i + 1), f1, g1, rfl, rfl, rfl, rfl, ?_, ?_, ?_, ?_, ?_, ?_⟩
        · omega
        · omega
        · first | (rw [sI_s (by omega), enH_t ‹aC f _ = true› ‹_ = ap›]; omega) | (rw [sI_s (by omega), enH_f ‹aC f _ = false›]; omega) | (rw [sI_s (by omega), enH_o ‹¬ _ = ap›]; omega)
        · omega
        · exact hlj
        · first | assumption | exact hmo1
        · omega
    · rw [show i = (f (fv 74 1) 0) by omega] at hs
      rw [← hs] at k0
      exact k0 f1 g1 hmo1
  · have hrw1 := hrw.1
    refine hO (k_measure_bk (by omega) (show 0 ≤ fm ∧ fm ≤ (f (fv 74 1) 0) from hfm) (show fm = 0 ∨ isL (f 75) (f (fv 74 1) 0) (fm - 1) = false from hst) (show rowB (f (fv 74 1) 0) 60 (f 75) from hrw) (show (abOK f) from hab) (fun f1_8 (hh_9 : bit (f (fv 15 5) 0) 2 = true → ∀ j, fm ≤ j → j < (f (fv 74 1) 0) → f1_8 56 j = lgI (aC f) (f 75) (f (fv 74 1) 0) j) (hh_10 : ∀ j, 0 ≤ j → j < fm → f1_8 56 j = (f 56 j)) => ?_))
    refine hF ((f (fv 74 1) 0) - (max fm 0) : Int).toNat ?_ ⟨rfl, 0, (max fm 0), (mx [56] f f1_8), g, rfl, rfl, (mx_mx rfl mx_rf), rfl, ?_, ?_, ?_, ?_, ?_, ?_⟩
    · omega
    · omega
    · rw [show max fm 0 = fm by omega]; omega
    · omega
    · assumption
    · exact hmo
    · omega
set_option maxRecDepth 100000 in
set_option maxHeartbeats 4000000 in
theorem k_earnsByPage {ap : Int} (hd : 5 ≤ d) (hrw : rowB (f (fv 10 1) 0) 60 (f 11)) (hcb : (coB f)) (hl : (lC f)) (hA : lwask (f (fv 15 5) 0) (lwC f)) (hday : 0 ≤ (f (fv 1 15) 0) ∧ (f (fv 1 15) 0) ≤ 9999) (hmo : mOK (lwC f) g) (k0 : ∀ f1 : iF, ∀ g1 : iG, (mOK (lwC f) g1) → Q (some (iI (enI (aC f) (f 7) (f (fv 1 15) 0) (lwC f) (f 11) (f (fv 10 1) 0) ap))) (mx [55, 56, 57, 58] f f1) g1) : wq d 151 [iR 54, iI ap] f g Q := by
  obtain ⟨d, rfl⟩ : ∃ e, d = e + 1 := ⟨d - 1, by omega⟩
  refine i_meth0 rfl rfl (fun O J hO => ?_)
  have hrw1 := hrw.1
  refine hO (k_lookOver (by omega) (show (coB f) from hcb) (fun f1_1 (hh_2 : ∀ s, 0 ≤ s → s < 29 → f1_1 55 s = b1 ((aC f) s)) => ?_))
  refine hO (k_earnsFrom_pg (by omega) (show 0 ≤ 0 ∧ 0 ≤ (f (fv 10 1) 0) from by omega) (show 0 = 0 ∨ isL (f 11) (f (fv 10 1) 0) (0 - 1) = false from Or.inl rfl) (show rowB (f (fv 10 1) 0) 60 (f 11) from hrw) (show (coB f) from hcb) (show (abOK (mx [55] f f1_1)) from by assumption) (show (lC f) from hl) (show lwask (f (fv 15 5) 0) (lwC f) from hA) (show 0 ≤ (f (fv 1 15) 0) ∧ (f (fv 1 15) 0) ≤ 9999 from hday) (show mOK (lwC f) g from hmo) (fun f1_3 g1_4 (hh_5 : mOK (lwC f) g1_4) => ?_))
  rw [enI_eq] at k0
  have hk := k0 (mx [56, 57, 58] (mx [55] f f1_1) f1_3) g1_4 (by assumption)
  rw [show mx [55, 56, 57, 58] f (mx [56, 57, 58] (mx [55] f f1_1) f1_3) = (mx [56, 57, 58] (mx [55] f f1_1) f1_3) from ((mx_mx rfl (mx_mx rfl mx_rf))).symm] at hk
  rw [show sI (enH (aC f) (f 7) (f (fv 1 15) 0) (lwC f) (f 11) (f (fv 10 1) 0) ap) (f (fv 10 1) 0) = sI (enH (aC f) (f 7) (f (fv 1 15) 0) (lwC f) (f 11) (f (fv 10 1) 0) ap) (f (fv 10 1) 0) - sI (enH (aC f) (f 7) (f (fv 1 15) 0) (lwC f) (f 11) (f (fv 10 1) 0) ap) 0 from by rw [sI_0]; omega] at hk
  exact hk
set_option maxRecDepth 100000 in
set_option maxHeartbeats 4000000 in
theorem k_earnings_pg_60 (hd : 4 ≤ d) (hrw : rowB (f (fv 10 1) 0) 60 (f 11)) (hcb : (coB f)) (hab : (abOK f)) (hl : (lC f)) (hA : lwask (f (fv 15 5) 0) (lwC f)) (hday : 0 ≤ (f (fv 1 15) 0) ∧ (f (fv 1 15) 0) ≤ 9999) (hmo : mOK (lwC f) g) (k0 : ∀ f1 : iF, ∀ g1 : iG, (∀ a, 0 ≤ a → a < 8 → f1 60 a = enI (aC f) (f 7) (f (fv 1 15) 0) (lwC f) (f 11) (f (fv 10 1) 0) a) → (mOK (lwC f) g1) → Q none (mx [56, 57, 58, 60] f f1) g1) : wq d 152 [iR 54, iR 10, iR 60] f g Q := by
  obtain ⟨d, rfl⟩ : ∃ e, d = e + 1 := ⟨d - 1, by omega⟩
  refine i_meth [(9, 4)] (fun n j lv st f' g' => (j = 9 ∧ ∃ (i : Int) (f1 : iF) (g1 : iG), lv = [some (iR 54), some (iR 10), some (iR 60), some (iI i)] ∧ st = [] ∧ f' = (mx [56, 57, 58, 60] f f1) ∧ g1 = g' ∧ (0 ≤ i ∧ i ≤ (f (fv 10 1) 0)) ∧ (∀ a, 0 ≤ a → a < 8 → f1 60 a = sI (enH (aC f) (f 7) (f (fv 1 15) 0) (lwC f) (f 11) (f (fv 10 1) 0) a) i) ∧ (bit (f (fv 15 5) 0) 2 = true → ∀ j, 0 ≤ j → j < (f (fv 10 1) 0) → f1 56 j = lgI (aC f) (f 11) (f (fv 10 1) 0) j) ∧ (mOK (lwC f) g1) ∧ (n : Int) = (f (fv 10 1) 0) - i)) 60 (by omega) rfl rfl (fun n j lv st f' g' hn hI O J hO hF hB => ?_) (fun hvs hin O J hO hF => ?_)
  · obtain ⟨rfl, i, f1, g1, rfl, rfl, rfl, rfl, hi, hE, hlj, hmo1, hm⟩ := hI
    have hrw1 := hrw.1
    have hcb1 := hcb.1
    refine ⟨fun (hh_1 : i < f (fv 10 1) 0) => ?_, fun (hh_1 : ¬ i < f (fv 10 1) 0) => ?_⟩
    · have hri := hrw.2 i (by omega) (by omega)
      refine ⟨fun _ => ?_, fun h => absurd (show i < 60 from by omega) h⟩
      refine hO (k_get_pg (by omega) (show 0 ≤ i ∧ i < 60 from by omega) ?_)
      refine hO (k_isAble (by omega) (show (abOK f) from hab) (fun (hh_2 : (aC f) (f 11 i) = true) => ?_) (fun (hh_3 : (aC f) (f 11 i) = false) => ?_))
      · have hac := aC_t.mp hh_2
        have hcs := hcb.2 (f 11 i) (by omega) (by omega)
        have hEa := hE (f 7 (f 11 i)) (by omega) (by omega)
        have hEb := sI_le (h := enH (aC f) (f 7) (f (fv 1 15) 0) (lwC f) (f 11) (f (fv 10 1) 0) (f 7 (f 11 i))) (n := i) (c := 99) (by omega) (by omega) (fun k _ _ => enH_r)
        refine ⟨fun h => absurd (show (1 : Int) = 0 from h) (by decide), fun _ => ?_⟩
        refine ⟨show 0 ≤ ((f 11 i) : Int) ∧ (f 11 i) < 29 from by omega, ?_⟩
        refine ⟨fun h => absurd (show f 7 (f 11 i) < 0 from h) (by omega), fun _ => ?_⟩
        refine ⟨fun _ => ?_, fun h => absurd (show f 7 (f 11 i) < 8 from by omega) h⟩
        refine ⟨show 0 ≤ (f 7 (f 11 i) : Int) ∧ f 7 (f 11 i) < 8 from by omega, ?_⟩
        refine hO (k_payAt_pg (by omega) (show 0 ≤ i ∧ i < (f (fv 10 1) 0) from by omega) (show rowB (f (fv 10 1) 0) 60 (f 11) from hrw) (show (f 11 i) < 29 from by have := aC_in _ ‹aC f _ = true›; omega) (show bit (f (fv 15 5) 0) 2 = true → (f1 56 i) = lgI (aC f) (f 11) (f (fv 10 1) 0) i from fun h => hlj h i (by omega) (by omega)) (show (coB f) from hcb) (show (abOK f) from hab) (show (lC f) from hl) (show lwask (f (fv 15 5) 0) (lwC f) from hA) (show 0 ≤ (f (fv 1 15) 0) ∧ (f (fv 1 15) 0) ≤ 9999 from hday) (show mOK (lwC f) g1 from hmo1) (fun f1_4 g1_5 (hh_6 : mOK (lwC f) g1_5) => ?_))
        have hpr := pyI_r (ab := aC f) (ow := f 7) (day := f (fv 1 15) 0) (w := lwC f) (row := (f 11)) (n := (f (fv 10 1) 0)) (i := i)
        refine Or.inl ⟨show inr ((f1 60 (f 7 (f 11 i))) + (pyI (aC f) (f 7) (f (fv 1 15) 0) (lwC f) (f 11) (f (fv 10 1) 0) i)) from by constructor <;> omega, ?_⟩
        refine ⟨show 0 ≤ (f 7 (f 11 i) : Int) ∧ f 7 (f 11 i) < 8 from by omega, ?_⟩
        refine ⟨show inr (i + 1) from by constructor <;> omega, ?_⟩
        refine hB ((f (fv 10 1) 0) - (i + 1) : Int).toNat ?_ ⟨rfl, (i + 1), (wv (mx [57, 58] f1 f1_4) 60 (f 7 (f 11 i)) ((f1 60 (f 7 (f 11 i))) + (pyI (aC f) (f 7) (f (fv 1 15) 0) (lwC f) (f 11) (f (fv 10 1) 0) i))), g1_5, rfl, rfl, (mx_wv rfl (mx_mx rfl rfl)), rfl, ?_, ?_, ?_, ?_, ?_⟩
        · omega
        · omega
        · intro a h0 h1
          rw [sI_s (by omega), wv_i]
          by_cases e : a = f 7 (f 11 i)
          · subst e
            rw [if_pos rfl, enH_t ‹aC f _ = true› rfl]
            exact congrArg (· + _) (hE _ (by omega) (by omega))
          · rw [if_neg e, enH_o (fun h => e h.symm), Int.add_zero]; exact hE a h0 h1
        · exact hlj
        · first | assumption | exact hmo1
        · omega
      · refine ⟨fun _ => ?_, fun h => absurd (show (0 : Int) = 0 from by decide) h⟩
        refine ⟨show inr (i + 1) from by constructor <;> omega, ?_⟩
        refine hB ((f (fv 10 1) 0) - (i + 1) : Int).toNat ?_ ⟨rfl, (i + 1), f1, g1, rfl, rfl, rfl, rfl, ?_, ?_, ?_, ?_, ?_⟩
        · omega
        · omega
        · intro a h0 h1
          rw [sI_s (by omega), enH_f ‹aC f _ = false›, Int.add_zero]; exact hE a h0 h1
        · exact hlj
        · first | assumption | exact hmo1
        · omega
    · exact k0 f1 g1 (fun a h0 h1 => by rw [hE a h0 h1, show i = (f (fv 10 1) 0) by omega]; rfl) hmo1
  · have hrw1 := hrw.1
    refine hO (k_measure_pg (by omega) (show 0 ≤ 0 ∧ 0 ≤ (f (fv 10 1) 0) from by omega) (show 0 = 0 ∨ isL (f 11) (f (fv 10 1) 0) (0 - 1) = false from Or.inl rfl) (show rowB (f (fv 10 1) 0) 60 (f 11) from hrw) (show (abOK f) from hab) (fun f1_7 (hh_8 : bit (f (fv 15 5) 0) 2 = true → ∀ j, 0 ≤ j → j < (f (fv 10 1) 0) → f1_7 56 j = lgI (aC f) (f 11) (f (fv 10 1) 0) j) (hh_9 : ∀ j, 0 ≤ j → j < 0 → f1_7 56 j = (f 56 j)) => ?_))
    have hlj0 := hh_8
    refine hO (k_fill_60 (by omega) (fun f1_10 (hh_11 : ∀ k, 0 ≤ k → k < 8 → f1_10 60 k = 0) => ?_))
    have hfz := hh_11
    refine hF ((f (fv 10 1) 0) - 0 : Int).toNat ?_ ⟨rfl, 0, (mx [60] (mx [56] f f1_7) f1_10), g, rfl, rfl, (mx_mx rfl (mx_mx rfl mx_rf)), rfl, ?_, ?_, ?_, ?_, ?_⟩
    · omega
    · omega
    · intro a h0 h1; rw [sI_0]; exact hfz a h0 h1
    · exact hlj0
    · exact hmo
    · omega
set_option maxRecDepth 100000 in
set_option maxHeartbeats 4000000 in
theorem k_earnings_pg_61 (hd : 4 ≤ d) (hrw : rowB (f (fv 10 1) 0) 60 (f 11)) (hcb : (coB f)) (hab : (abOK f)) (hl : (lC f)) (hA : lwask (f (fv 15 5) 0) (lwC f)) (hday : 0 ≤ (f (fv 1 15) 0) ∧ (f (fv 1 15) 0) ≤ 9999) (hmo : mOK (lwC f) g) (k0 : ∀ f1 : iF, ∀ g1 : iG, (∀ a, 0 ≤ a → a < 8 → f1 61 a = enI (aC f) (f 7) (f (fv 1 15) 0) (lwC f) (f 11) (f (fv 10 1) 0) a) → (mOK (lwC f) g1) → Q none (mx [56, 57, 58, 61] f f1) g1) : wq d 152 [iR 54, iR 10, iR 61] f g Q := by
  obtain ⟨d, rfl⟩ : ∃ e, d = e + 1 := ⟨d - 1, by omega⟩
  refine i_meth [(9, 4)] (fun n j lv st f' g' => (j = 9 ∧ ∃ (i : Int) (f1 : iF) (g1 : iG), lv = [some (iR 54), some (iR 10), some (iR 61), some (iI i)] ∧ st = [] ∧ f' = (mx [56, 57, 58, 61] f f1) ∧ g1 = g' ∧ (0 ≤ i ∧ i ≤ (f (fv 10 1) 0)) ∧ (∀ a, 0 ≤ a → a < 8 → f1 61 a = sI (enH (aC f) (f 7) (f (fv 1 15) 0) (lwC f) (f 11) (f (fv 10 1) 0) a) i) ∧ (bit (f (fv 15 5) 0) 2 = true → ∀ j, 0 ≤ j → j < (f (fv 10 1) 0) → f1 56 j = lgI (aC f) (f 11) (f (fv 10 1) 0) j) ∧ (mOK (lwC f) g1) ∧ (n : Int) = (f (fv 10 1) 0) - i)) 60 (by omega) rfl rfl (fun n j lv st f' g' hn hI O J hO hF hB => ?_) (fun hvs hin O J hO hF => ?_)
  · obtain ⟨rfl, i, f1, g1, rfl, rfl, rfl, rfl, hi, hE, hlj, hmo1, hm⟩ := hI
    have hrw1 := hrw.1
    have hcb1 := hcb.1
    refine ⟨fun (hh_1 : i < f (fv 10 1) 0) => ?_, fun (hh_1 : ¬ i < f (fv 10 1) 0) => ?_⟩
    · have hri := hrw.2 i (by omega) (by omega)
      refine ⟨fun _ => ?_, fun h => absurd (show i < 60 from by omega) h⟩
      refine hO (k_get_pg (by omega) (show 0 ≤ i ∧ i < 60 from by omega) ?_)
      refine hO (k_isAble (by omega) (show (abOK f) from hab) (fun (hh_2 : (aC f) (f 11 i) = true) => ?_) (fun (hh_3 : (aC f) (f 11 i) = false) => ?_))
      · have hac := aC_t.mp hh_2
        have hcs := hcb.2 (f 11 i) (by omega) (by omega)
        have hEa := hE (f 7 (f 11 i)) (by omega) (by omega)
        have hEb := sI_le (h := enH (aC f) (f 7) (f (fv 1 15) 0) (lwC f) (f 11) (f (fv 10 1) 0) (f 7 (f 11 i))) (n := i) (c := 99) (by omega) (by omega) (fun k _ _ => enH_r)
        refine ⟨fun h => absurd (show (1 : Int) = 0 from h) (by decide), fun _ => ?_⟩
        refine ⟨show 0 ≤ ((f 11 i) : Int) ∧ (f 11 i) < 29 from by omega, ?_⟩
        refine ⟨fun h => absurd (show f 7 (f 11 i) < 0 from h) (by omega), fun _ => ?_⟩
        refine ⟨fun _ => ?_, fun h => absurd (show f 7 (f 11 i) < 8 from by omega) h⟩
        refine ⟨show 0 ≤ (f 7 (f 11 i) : Int) ∧ f 7 (f 11 i) < 8 from by omega, ?_⟩
        refine hO (k_payAt_pg (by omega) (show 0 ≤ i ∧ i < (f (fv 10 1) 0) from by omega) (show rowB (f (fv 10 1) 0) 60 (f 11) from hrw) (show (f 11 i) < 29 from by have := aC_in _ ‹aC f _ = true›; omega) (show bit (f (fv 15 5) 0) 2 = true → (f1 56 i) = lgI (aC f) (f 11) (f (fv 10 1) 0) i from fun h => hlj h i (by omega) (by omega)) (show (coB f) from hcb) (show (abOK f) from hab) (show (lC f) from hl) (show lwask (f (fv 15 5) 0) (lwC f) from hA) (show 0 ≤ (f (fv 1 15) 0) ∧ (f (fv 1 15) 0) ≤ 9999 from hday) (show mOK (lwC f) g1 from hmo1) (fun f1_4 g1_5 (hh_6 : mOK (lwC f) g1_5) => ?_))
        have hpr := pyI_r (ab := aC f) (ow := f 7) (day := f (fv 1 15) 0) (w := lwC f) (row := (f 11)) (n := (f (fv 10 1) 0)) (i := i)
        refine Or.inl ⟨show inr ((f1 61 (f 7 (f 11 i))) + (pyI (aC f) (f 7) (f (fv 1 15) 0) (lwC f) (f 11) (f (fv 10 1) 0) i)) from by constructor <;> omega, ?_⟩
        refine ⟨show 0 ≤ (f 7 (f 11 i) : Int) ∧ f 7 (f 11 i) < 8 from by omega, ?_⟩
        refine ⟨show inr (i + 1) from by constructor <;> omega, ?_⟩
        refine hB ((f (fv 10 1) 0) - (i + 1) : Int).toNat ?_ ⟨rfl, (i + 1), (wv (mx [57, 58] f1 f1_4) 61 (f 7 (f 11 i)) ((f1 61 (f 7 (f 11 i))) + (pyI (aC f) (f 7) (f (fv 1 15) 0) (lwC f) (f 11) (f (fv 10 1) 0) i))), g1_5, rfl, rfl, (mx_wv rfl (mx_mx rfl rfl)), rfl, ?_, ?_, ?_, ?_, ?_⟩
        · omega
        · omega
        · intro a h0 h1
          rw [sI_s (by omega), wv_i]
          by_cases e : a = f 7 (f 11 i)
          · subst e
            rw [if_pos rfl, enH_t ‹aC f _ = true› rfl]
            exact congrArg (· + _) (hE _ (by omega) (by omega))
          · rw [if_neg e, enH_o (fun h => e h.symm), Int.add_zero]; exact hE a h0 h1
        · exact hlj
        · first | assumption | exact hmo1
        · omega
      · refine ⟨fun _ => ?_, fun h => absurd (show (0 : Int) = 0 from by decide) h⟩
        refine ⟨show inr (i + 1) from by constructor <;> omega, ?_⟩
        refine hB ((f (fv 10 1) 0) - (i + 1) : Int).toNat ?_ ⟨rfl, (i + 1), f1, g1, rfl, rfl, rfl, rfl, ?_, ?_, ?_, ?_, ?_⟩
        · omega
        · omega
        · intro a h0 h1
          rw [sI_s (by omega), enH_f ‹aC f _ = false›, Int.add_zero]; exact hE a h0 h1
        · exact hlj
        · first | assumption | exact hmo1
        · omega
    · exact k0 f1 g1 (fun a h0 h1 => by rw [hE a h0 h1, show i = (f (fv 10 1) 0) by omega]; rfl) hmo1
  · have hrw1 := hrw.1
    refine hO (k_measure_pg (by omega) (show 0 ≤ 0 ∧ 0 ≤ (f (fv 10 1) 0) from by omega) (show 0 = 0 ∨ isL (f 11) (f (fv 10 1) 0) (0 - 1) = false from Or.inl rfl) (show rowB (f (fv 10 1) 0) 60 (f 11) from hrw) (show (abOK f) from hab) (fun f1_7 (hh_8 : bit (f (fv 15 5) 0) 2 = true → ∀ j, 0 ≤ j → j < (f (fv 10 1) 0) → f1_7 56 j = lgI (aC f) (f 11) (f (fv 10 1) 0) j) (hh_9 : ∀ j, 0 ≤ j → j < 0 → f1_7 56 j = (f 56 j)) => ?_))
    have hlj0 := hh_8
    refine hO (k_fill_61 (by omega) (fun f1_10 (hh_11 : ∀ k, 0 ≤ k → k < 8 → f1_10 61 k = 0) => ?_))
    have hfz := hh_11
    refine hF ((f (fv 10 1) 0) - 0 : Int).toNat ?_ ⟨rfl, 0, (mx [61] (mx [56] f f1_7) f1_10), g, rfl, rfl, (mx_mx rfl (mx_mx rfl mx_rf)), rfl, ?_, ?_, ?_, ?_, ?_⟩
    · omega
    · omega
    · intro a h0 h1; rw [sI_0]; exact hfz a h0 h1
    · exact hlj0
    · exact hmo
    · omega
set_option maxRecDepth 100000 in
set_option maxHeartbeats 4000000 in
theorem k_earnings_pg_78 (hd : 4 ≤ d) (hrw : rowB (f (fv 10 1) 0) 60 (f 11)) (hcb : (coB f)) (hab : (abOK f)) (hl : (lC f)) (hA : lwask (f (fv 15 5) 0) (lwC f)) (hday : 0 ≤ (f (fv 1 15) 0) ∧ (f (fv 1 15) 0) ≤ 9999) (hmo : mOK (lwC f) g) (k0 : ∀ f1 : iF, ∀ g1 : iG, (∀ a, 0 ≤ a → a < 8 → f1 78 a = enI (aC f) (f 7) (f (fv 1 15) 0) (lwC f) (f 11) (f (fv 10 1) 0) a) → (mOK (lwC f) g1) → Q none (mx [56, 57, 58, 78] f f1) g1) : wq d 152 [iR 54, iR 10, iR 78] f g Q := by
  obtain ⟨d, rfl⟩ : ∃ e, d = e + 1 := ⟨d - 1, by omega⟩
  refine i_meth [(9, 4)] (fun n j lv st f' g' => (j = 9 ∧ ∃ (i : Int) (f1 : iF) (g1 : iG), lv = [some (iR 54), some (iR 10), some (iR 78), some (iI i)] ∧ st = [] ∧ f' = (mx [56, 57, 58, 78] f f1) ∧ g1 = g' ∧ (0 ≤ i ∧ i ≤ (f (fv 10 1) 0)) ∧ (∀ a, 0 ≤ a → a < 8 → f1 78 a = sI (enH (aC f) (f 7) (f (fv 1 15) 0) (lwC f) (f 11) (f (fv 10 1) 0) a) i) ∧ (bit (f (fv 15 5) 0) 2 = true → ∀ j, 0 ≤ j → j < (f (fv 10 1) 0) → f1 56 j = lgI (aC f) (f 11) (f (fv 10 1) 0) j) ∧ (mOK (lwC f) g1) ∧ (n : Int) = (f (fv 10 1) 0) - i)) 60 (by omega) rfl rfl (fun n j lv st f' g' hn hI O J hO hF hB => ?_) (fun hvs hin O J hO hF => ?_)
  · obtain ⟨rfl, i, f1, g1, rfl, rfl, rfl, rfl, hi, hE, hlj, hmo1, hm⟩ := hI
    have hrw1 := hrw.1
    have hcb1 := hcb.1
    refine ⟨fun (hh_1 : i < f (fv 10 1) 0) => ?_, fun (hh_1 : ¬ i < f (fv 10 1) 0) => ?_⟩
    · have hri := hrw.2 i (by omega) (by omega)
      refine ⟨fun _ => ?_, fun h => absurd (show i < 60 from by omega) h⟩
      refine hO (k_get_pg (by omega) (show 0 ≤ i ∧ i < 60 from by omega) ?_)
      refine hO (k_isAble (by omega) (show (abOK f) from hab) (fun (hh_2 : (aC f) (f 11 i) = true) => ?_) (fun (hh_3 : (aC f) (f 11 i) = false) => ?_))
      · have hac := aC_t.mp hh_2
        have hcs := hcb.2 (f 11 i) (by omega) (by omega)
        have hEa := hE (f 7 (f 11 i)) (by omega) (by omega)
        have hEb := sI_le (h := enH (aC f) (f 7) (f (fv 1 15) 0) (lwC f) (f 11) (f (fv 10 1) 0) (f 7 (f 11 i))) (n := i) (c := 99) (by omega) (by omega) (fun k _ _ => enH_r)
        refine ⟨fun h => absurd (show (1 : Int) = 0 from h) (by decide), fun _ => ?_⟩
        refine ⟨show 0 ≤ ((f 11 i) : Int) ∧ (f 11 i) < 29 from by omega, ?_⟩
        refine ⟨fun h => absurd (show f 7 (f 11 i) < 0 from h) (by omega), fun _ => ?_⟩
        refine ⟨fun _ => ?_, fun h => absurd (show f 7 (f 11 i) < 8 from by omega) h⟩
        refine ⟨show 0 ≤ (f 7 (f 11 i) : Int) ∧ f 7 (f 11 i) < 8 from by omega, ?_⟩
        refine hO (k_payAt_pg (by omega) (show 0 ≤ i ∧ i < (f (fv 10 1) 0) from by omega) (show rowB (f (fv 10 1) 0) 60 (f 11) from hrw) (show (f 11 i) < 29 from by have := aC_in _ ‹aC f _ = true›; omega) (show bit (f (fv 15 5) 0) 2 = true → (f1 56 i) = lgI (aC f) (f 11) (f (fv 10 1) 0) i from fun h => hlj h i (by omega) (by omega)) (show (coB f) from hcb) (show (abOK f) from hab) (show (lC f) from hl) (show lwask (f (fv 15 5) 0) (lwC f) from hA) (show 0 ≤ (f (fv 1 15) 0) ∧ (f (fv 1 15) 0) ≤ 9999 from hday) (show mOK (lwC f) g1 from hmo1) (fun f1_4 g1_5 (hh_6 : mOK (lwC f) g1_5) => ?_))
        have hpr := pyI_r (ab := aC f) (ow := f 7) (day := f (fv 1 15) 0) (w := lwC f) (row := (f 11)) (n := (f (fv 10 1) 0)) (i := i)
        refine Or.inl ⟨show inr ((f1 78 (f 7 (f 11 i))) + (pyI (aC f) (f 7) (f (fv 1 15) 0) (lwC f) (f 11) (f (fv 10 1) 0) i)) from by constructor <;> omega, ?_⟩
        refine ⟨show 0 ≤ (f 7 (f 11 i) : Int) ∧ f 7 (f 11 i) < 8 from by omega, ?_⟩
        refine ⟨show inr (i + 1) from by constructor <;> omega, ?_⟩
        refine hB ((f (fv 10 1) 0) - (i + 1) : Int).toNat ?_ ⟨rfl, (i + 1), (wv (mx [57, 58] f1 f1_4) 78 (f 7 (f 11 i)) ((f1 78 (f 7 (f 11 i))) + (pyI (aC f) (f 7) (f (fv 1 15) 0) (lwC f) (f 11) (f (fv 10 1) 0) i))), g1_5, rfl, rfl, (mx_wv rfl (mx_mx rfl rfl)), rfl, ?_, ?_, ?_, ?_, ?_⟩
        · omega
        · omega
        · intro a h0 h1
          rw [sI_s (by omega), wv_i]
          by_cases e : a = f 7 (f 11 i)
          · subst e
            rw [if_pos rfl, enH_t ‹aC f _ = true› rfl]
            exact congrArg (· + _) (hE _ (by omega) (by omega))
          · rw [if_neg e, enH_o (fun h => e h.symm), Int.add_zero]; exact hE a h0 h1
        · exact hlj
        · first | assumption | exact hmo1
        · omega
      · refine ⟨fun _ => ?_, fun h => absurd (show (0 : Int) = 0 from by decide) h⟩
        refine ⟨show inr (i + 1) from by constructor <;> omega, ?_⟩
        refine hB ((f (fv 10 1) 0) - (i + 1) : Int).toNat ?_ ⟨rfl, (i + 1), f1, g1, rfl, rfl, rfl, rfl, ?_, ?_, ?_, ?_, ?_⟩
        · omega
        · omega
        · intro a h0 h1
          rw [sI_s (by omega), enH_f ‹aC f _ = false›, Int.add_zero]; exact hE a h0 h1
        · exact hlj
        · first | assumption | exact hmo1
        · omega
    · exact k0 f1 g1 (fun a h0 h1 => by rw [hE a h0 h1, show i = (f (fv 10 1) 0) by omega]; rfl) hmo1
  · have hrw1 := hrw.1
    refine hO (k_measure_pg (by omega) (show 0 ≤ 0 ∧ 0 ≤ (f (fv 10 1) 0) from by omega) (show 0 = 0 ∨ isL (f 11) (f (fv 10 1) 0) (0 - 1) = false from Or.inl rfl) (show rowB (f (fv 10 1) 0) 60 (f 11) from hrw) (show (abOK f) from hab) (fun f1_7 (hh_8 : bit (f (fv 15 5) 0) 2 = true → ∀ j, 0 ≤ j → j < (f (fv 10 1) 0) → f1_7 56 j = lgI (aC f) (f 11) (f (fv 10 1) 0) j) (hh_9 : ∀ j, 0 ≤ j → j < 0 → f1_7 56 j = (f 56 j)) => ?_))
    have hlj0 := hh_8
    refine hO (k_fill_78 (by omega) (fun f1_10 (hh_11 : ∀ k, 0 ≤ k → k < 8 → f1_10 78 k = 0) => ?_))
    have hfz := hh_11
    refine hF ((f (fv 10 1) 0) - 0 : Int).toNat ?_ ⟨rfl, 0, (mx [78] (mx [56] f f1_7) f1_10), g, rfl, rfl, (mx_mx rfl (mx_mx rfl mx_rf)), rfl, ?_, ?_, ?_, ?_, ?_⟩
    · omega
    · omega
    · intro a h0 h1; rw [sI_0]; exact hfz a h0 h1
    · exact hlj0
    · exact hmo
    · omega
set_option maxRecDepth 100000 in
set_option maxHeartbeats 4000000 in
theorem k_earnings_rm_71 (hd : 4 ≤ d) (hrw : rowB (f (fv 64 1) 0) 12 (f 65)) (hcb : (coB f)) (hab : (abOK f)) (hl : (lC f)) (hA : lwask (f (fv 15 5) 0) (lwC f)) (hday : 0 ≤ (f (fv 1 15) 0) ∧ (f (fv 1 15) 0) ≤ 9999) (hmo : mOK (lwC f) g) (k0 : ∀ f1 : iF, ∀ g1 : iG, (∀ a, 0 ≤ a → a < 8 → f1 71 a = enI (aC f) (f 7) (f (fv 1 15) 0) (lwC f) (f 65) (f (fv 64 1) 0) a) → (mOK (lwC f) g1) → Q none (mx [56, 57, 58, 71] f f1) g1) : wq d 152 [iR 54, iR 64, iR 71] f g Q := by
  obtain ⟨d, rfl⟩ : ∃ e, d = e + 1 := ⟨d - 1, by omega⟩
  refine i_meth [(9, 4)] (fun n j lv st f' g' => (j = 9 ∧ ∃ (i : Int) (f1 : iF) (g1 : iG), lv = [some (iR 54), some (iR 64), some (iR 71), some (iI i)] ∧ st = [] ∧ f' = (mx [56, 57, 58, 71] f f1) ∧ g1 = g' ∧ (0 ≤ i ∧ i ≤ (f (fv 64 1) 0)) ∧ (∀ a, 0 ≤ a → a < 8 → f1 71 a = sI (enH (aC f) (f 7) (f (fv 1 15) 0) (lwC f) (f 65) (f (fv 64 1) 0) a) i) ∧ (bit (f (fv 15 5) 0) 2 = true → ∀ j, 0 ≤ j → j < (f (fv 64 1) 0) → f1 56 j = lgI (aC f) (f 65) (f (fv 64 1) 0) j) ∧ (mOK (lwC f) g1) ∧ (n : Int) = (f (fv 64 1) 0) - i)) 60 (by omega) rfl rfl (fun n j lv st f' g' hn hI O J hO hF hB => ?_) (fun hvs hin O J hO hF => ?_)
  · obtain ⟨rfl, i, f1, g1, rfl, rfl, rfl, rfl, hi, hE, hlj, hmo1, hm⟩ := hI
    have hrw1 := hrw.1
    have hcb1 := hcb.1
    refine ⟨fun (hh_1 : i < f (fv 64 1) 0) => ?_, fun (hh_1 : ¬ i < f (fv 64 1) 0) => ?_⟩
    · have hri := hrw.2 i (by omega) (by omega)
      refine ⟨fun _ => ?_, fun h => absurd (show i < 60 from by omega) h⟩
      refine hO (k_get_rm (by omega) (show 0 ≤ i ∧ i < 12 from by omega) ?_)
      refine hO (k_isAble (by omega) (show (abOK f) from hab) (fun (hh_2 : (aC f) (f 65 i) = true) => ?_) (fun (hh_3 : (aC f) (f 65 i) = false) => ?_))
      · have hac := aC_t.mp hh_2
        have hcs := hcb.2 (f 65 i) (by omega) (by omega)
        have hEa := hE (f 7 (f 65 i)) (by omega) (by omega)
        have hEb := sI_le (h := enH (aC f) (f 7) (f (fv 1 15) 0) (lwC f) (f 65) (f (fv 64 1) 0) (f 7 (f 65 i))) (n := i) (c := 99) (by omega) (by omega) (fun k _ _ => enH_r)
        refine ⟨fun h => absurd (show (1 : Int) = 0 from h) (by decide), fun _ => ?_⟩
        refine ⟨show 0 ≤ ((f 65 i) : Int) ∧ (f 65 i) < 29 from by omega, ?_⟩
        refine ⟨fun h => absurd (show f 7 (f 65 i) < 0 from h) (by omega), fun _ => ?_⟩
        refine ⟨fun _ => ?_, fun h => absurd (show f 7 (f 65 i) < 8 from by omega) h⟩
        refine ⟨show 0 ≤ (f 7 (f 65 i) : Int) ∧ f 7 (f 65 i) < 8 from by omega, ?_⟩
        refine hO (k_payAt_rm (by omega) (show 0 ≤ i ∧ i < (f (fv 64 1) 0) from by omega) (show rowB (f (fv 64 1) 0) 12 (f 65) from hrw) (show (f 65 i) < 29 from by have := aC_in _ ‹aC f _ = true›; omega) (show bit (f (fv 15 5) 0) 2 = true → (f1 56 i) = lgI (aC f) (f 65) (f (fv 64 1) 0) i from fun h => hlj h i (by omega) (by omega)) (show (coB f) from hcb) (show (abOK f) from hab) (show (lC f) from hl) (show lwask (f (fv 15 5) 0) (lwC f) from hA) (show 0 ≤ (f (fv 1 15) 0) ∧ (f (fv 1 15) 0) ≤ 9999 from hday) (show mOK (lwC f) g1 from hmo1) (fun f1_4 g1_5 (hh_6 : mOK (lwC f) g1_5) => ?_))
        have hpr := pyI_r (ab := aC f) (ow := f 7) (day := f (fv 1 15) 0) (w := lwC f) (row := (f 65)) (n := (f (fv 64 1) 0)) (i := i)
        refine Or.inl ⟨show inr ((f1 71 (f 7 (f 65 i))) + (pyI (aC f) (f 7) (f (fv 1 15) 0) (lwC f) (f 65) (f (fv 64 1) 0) i)) from by constructor <;> omega, ?_⟩
        refine ⟨show 0 ≤ (f 7 (f 65 i) : Int) ∧ f 7 (f 65 i) < 8 from by omega, ?_⟩
        refine ⟨show inr (i + 1) from by constructor <;> omega, ?_⟩
        refine hB ((f (fv 64 1) 0) - (i + 1) : Int).toNat ?_ ⟨rfl, (i + 1), (wv (mx [57, 58] f1 f1_4) 71 (f 7 (f 65 i)) ((f1 71 (f 7 (f 65 i))) + (pyI (aC f) (f 7) (f (fv 1 15) 0) (lwC f) (f 65) (f (fv 64 1) 0) i))), g1_5, rfl, rfl, (mx_wv rfl (mx_mx rfl rfl)), rfl, ?_, ?_, ?_, ?_, ?_⟩
        · omega
        · omega
        · intro a h0 h1
          rw [sI_s (by omega), wv_i]
          by_cases e : a = f 7 (f 65 i)
          · subst e
            rw [if_pos rfl, enH_t ‹aC f _ = true› rfl]
            exact congrArg (· + _) (hE _ (by omega) (by omega))
          · rw [if_neg e, enH_o (fun h => e h.symm), Int.add_zero]; exact hE a h0 h1
        · exact hlj
        · first | assumption | exact hmo1
        · omega
      · refine ⟨fun _ => ?_, fun h => absurd (show (0 : Int) = 0 from by decide) h⟩
        refine ⟨show inr (i + 1) from by constructor <;> omega, ?_⟩
        refine hB ((f (fv 64 1) 0) - (i + 1) : Int).toNat ?_ ⟨rfl, (i + 1), f1, g1, rfl, rfl, rfl, rfl, ?_, ?_, ?_, ?_, ?_⟩
        · omega
        · omega
        · intro a h0 h1
          rw [sI_s (by omega), enH_f ‹aC f _ = false›, Int.add_zero]; exact hE a h0 h1
        · exact hlj
        · first | assumption | exact hmo1
        · omega
    · exact k0 f1 g1 (fun a h0 h1 => by rw [hE a h0 h1, show i = (f (fv 64 1) 0) by omega]; rfl) hmo1
  · have hrw1 := hrw.1
    refine hO (k_measure_rm (by omega) (show 0 ≤ 0 ∧ 0 ≤ (f (fv 64 1) 0) from by omega) (show 0 = 0 ∨ isL (f 65) (f (fv 64 1) 0) (0 - 1) = false from Or.inl rfl) (show rowB (f (fv 64 1) 0) 12 (f 65) from hrw) (show (abOK f) from hab) (fun f1_7 (hh_8 : bit (f (fv 15 5) 0) 2 = true → ∀ j, 0 ≤ j → j < (f (fv 64 1) 0) → f1_7 56 j = lgI (aC f) (f 65) (f (fv 64 1) 0) j) (hh_9 : ∀ j, 0 ≤ j → j < 0 → f1_7 56 j = (f 56 j)) => ?_))
    have hlj0 := hh_8
    refine hO (k_fill_71 (by omega) (fun f1_10 (hh_11 : ∀ k, 0 ≤ k → k < 8 → f1_10 71 k = 0) => ?_))
    have hfz := hh_11
    refine hF ((f (fv 64 1) 0) - 0 : Int).toNat ?_ ⟨rfl, 0, (mx [71] (mx [56] f f1_7) f1_10), g, rfl, rfl, (mx_mx rfl (mx_mx rfl mx_rf)), rfl, ?_, ?_, ?_, ?_, ?_⟩
    · omega
    · omega
    · intro a h0 h1; rw [sI_0]; exact hfz a h0 h1
    · exact hlj0
    · exact hmo
    · omega
end C10
