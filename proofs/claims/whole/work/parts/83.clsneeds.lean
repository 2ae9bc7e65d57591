section C33
variable {d : Nat} {f : iF} {g : iG} {Q : Option iv → iF → iG → Prop}
/-! ===== the class: who must eat, what feeds all ===== -/
def ndI (l mo : Int) : Int := if 0 < mo then (l + mo - 1) / mo else l
/-- what an apprentice must earn -/
def lsP (st bu ow br : Int → Int) (crew a l : Int) : Prop := (a < crew ∧ mst st bu ow a ∧ l = br a) ∨ (¬ (a < crew ∧ mst st bu ow a) ∧ l = 0)
theorem ndI_r {l mo : Int} (h : 0 ≤ l ∧ l ≤ 99) (hm : 0 ≤ mo) : 0 ≤ ndI l mo ∧ ndI l mo ≤ 99 := by
  unfold ndI
  split
  · rename_i q
    refine ⟨Int.ediv_nonneg (by omega) (by omega), ?_⟩
    have h1 : (l + mo - 1) / mo ≤ (99 * mo) / mo := by
      apply Int.ediv_le_ediv q
      have e3 : 99 * mo = 98 * mo + mo := by omega
      have e4 : 98 * 1 ≤ 98 * mo := Int.mul_le_mul_of_nonneg_left (by omega) (by omega)
      omega
    rw [Int.mul_ediv_cancel _ (by omega)] at h1
    exact h1
  · exact h
set_option maxRecDepth 100000 in
set_option maxHeartbeats 4000000 in
theorem k_ownsU {a9 : Int} (hd : 1 ≤ d) (k0 : (∃ s, 0 ≤ s ∧ s < 29 ∧ (f 7 s) = a9 ∧ (f 8 s) = 0) → Q (some (iI 1)) f g) (k1 : (¬ ∃ s, 0 ≤ s ∧ s < 29 ∧ (f 7 s) = a9 ∧ (f 8 s) = 0) → Q (some (iI 0)) f g) : wq d 105 [iR 1, iI a9] f g Q := by
  obtain ⟨d, rfl⟩ : ∃ e, d = e + 1 := ⟨d - 1, by omega⟩
  refine i_meth [(2, 3)] (fun n j lv st f' g' => (j = 2 ∧ ∃ (s : Int), lv = [some (iR 1), some (iI a9), some (iI s)] ∧ st = [] ∧ f = f' ∧ g = g' ∧ (0 ≤ s ∧ s ≤ 29) ∧ (∀ q, 0 ≤ q → q < s → ¬ (f 7 q = a9 ∧ f 8 q = 0)) ∧ (n : Int) = 29 - s)) 29 (by omega) rfl rfl (fun n j lv st f' g' hn hI O J hO hF hB => ?_) (fun hvs hin O J hO hF => ?_)
  · obtain ⟨rfl, s, rfl, rfl, rfl, rfl, hs, hz, hm⟩ := hI
    refine ⟨fun (hh_1 : s < 29) => ?_, fun (hh_1 : ¬ s < 29) => ?_⟩
    · refine ⟨show 0 ≤ (s : Int) ∧ s < 29 from by omega, ?_⟩
      refine ⟨fun (hh_2 : f 7 s = a9) => ?_, fun (hh_2 : ¬ f 7 s = a9) => ?_⟩
      · refine ⟨show 0 ≤ (s : Int) ∧ s < 29 from by omega, ?_⟩
        refine ⟨fun (hh_3 : f 8 s = 0) => ?_, fun (hh_3 : ¬ f 8 s = 0) => ?_⟩
        · refine ⟨show (1 : Int) = 0 ∨ 1 = 1 from by decide, ?_⟩
          exact k0 ⟨s, by omega, by omega, by assumption, by assumption⟩
        · refine ⟨show inr (s + 1) from by constructor <;> omega, ?_⟩
          refine hB (29 - (s + 1) : Int).toNat ?_ ⟨rfl, (s + 1), rfl, rfl, rfl, rfl, ?_, ?_, ?_⟩
          · omega
          · omega
          · intro q h0 h1
            by_cases e : q = s
            · rw [e]; omega
            · exact hz q h0 (by omega)
          · omega
      · refine ⟨show inr (s + 1) from by constructor <;> omega, ?_⟩
        refine hB (29 - (s + 1) : Int).toNat ?_ ⟨rfl, (s + 1), rfl, rfl, rfl, rfl, ?_, ?_, ?_⟩
        · omega
        · omega
        · intro q h0 h1
          by_cases e : q = s
          · rw [e]; omega
          · exact hz q h0 (by omega)
        · omega
    · refine ⟨show (0 : Int) = 0 ∨ 0 = 1 from by decide, ?_⟩
      exact k1 (fun h => by obtain ⟨q, q0, q1, q2, q3⟩ := h; exact hz q q0 (by omega) ⟨q2, q3⟩)
  · refine hF (29 - 0 : Int).toNat ?_ ⟨rfl, 0, rfl, rfl, rfl, rfl, ?_, ?_, ?_⟩
    · omega
    · omega
    · intro q h0 h1; omega
    · omega
set_option maxRecDepth 100000 in
set_option maxHeartbeats 4000000 in
theorem k_feeds (hd : 5 ≤ d) (hrw : rowB (f (fv 64 1) 0) 12 (f 65)) (hls : ∀ o, 0 ≤ o → o < 8 → 0 ≤ (f 68 o) ∧ (f 68 o) ≤ 99) (hhu : 0 ≤ (f (fv 62 11) 0) ∧ (f (fv 62 11) 0) < 8) (hcb : (coB f)) (hab : (abOK f)) (hl : (lC f)) (hA : lwask (f (fv 15 5) 0) (lwC f)) (hday : 0 ≤ (f (fv 1 15) 0) ∧ (f (fv 1 15) 0) ≤ 9999) (hmo : mOK (lwC f) g) (k0 : ∀ f1 : iF, ∀ g1 : iG, (∀ o, 0 ≤ o → o < 8 → (f 68 o) ≤ enI (aC f) (f 7) (f (fv 1 15) 0) (lwC f) (f 65) (f (fv 64 1) 0) o) → (0 ≤ f1 (fv 62 11) 0 ∧ f1 (fv 62 11) 0 < 8) → (mOK (lwC f) g1) → Q (some (iI 1)) (mx [56, 57, 58, 71, fv 62 11] f f1) g1) (k1 : ∀ f1 : iF, ∀ g1 : iG, (¬ ∀ o, 0 ≤ o → o < 8 → (f 68 o) ≤ enI (aC f) (f 7) (f (fv 1 15) 0) (lwC f) (f 65) (f (fv 64 1) 0) o) → (0 ≤ f1 (fv 62 11) 0 ∧ f1 (fv 62 11) 0 < 8) → (mOK (lwC f) g1) → Q (some (iI 0)) (mx [56, 57, 58, 71, fv 62 11] f f1) g1) : wq d 165 [iR 62] f g Q := by
  obtain ⟨d, rfl⟩ : ∃ e, d = e + 1 := ⟨d - 1, by omega⟩
  refine i_meth [(25, 2)] (fun n j lv st f' g' => (j = 25 ∧ ∃ (a9 : Int) (f1 : iF) (g1 : iG), lv = [some (iR 62), some (iI a9)] ∧ st = [] ∧ f' = (mx [56, 57, 58, 71, fv 62 11] f f1) ∧ g1 = g' ∧ (0 ≤ a9 ∧ a9 ≤ 8) ∧ (∀ o, 0 ≤ o → o < 8 → f1 71 o = enI (aC f) (f 7) (f (fv 1 15) 0) (lwC f) (f 65) (f (fv 64 1) 0) o) ∧ (f1 (fv 62 11) 0 = f (fv 62 11) 0) ∧ (mOK (lwC f) g1) ∧ (∀ o, 0 ≤ o → o < a9 → f 68 o ≤ enI (aC f) (f 7) (f (fv 1 15) 0) (lwC f) (f 65) (f (fv 64 1) 0) o) ∧ (n : Int) = 8 - a9)) 8 (by omega) rfl rfl (fun n j lv st f' g' hn hI O J hO hF hB => ?_) (fun hvs hin O J hO hF => ?_)
  · obtain ⟨rfl, a9, f1, g1, rfl, rfl, rfl, rfl, ha, hE, hh, hmo1, hz, hm⟩ := hI
    refine ⟨fun (hh_1 : a9 < 8) => ?_, fun (hh_1 : ¬ a9 < 8) => ?_⟩
    · have hEa := hE a9 (by omega) (by omega)
      refine ⟨show 0 ≤ (a9 : Int) ∧ a9 < 8 from by omega, ?_⟩
      refine ⟨show 0 ≤ (a9 : Int) ∧ a9 < 8 from by omega, ?_⟩
      refine ⟨fun (hh_2 : f1 71 a9 < f 68 a9) => ?_, fun (hh_2 : ¬ f1 71 a9 < f 68 a9) => ?_⟩
      · refine ⟨show (0 : Int) = 0 ∨ 0 = 1 from by decide, ?_⟩
        have hk := k1 (wv f1 (fv 62 11) 0 a9) g1 (fun h => by have := h a9 (by omega) (by omega); omega) ⟨by show 0 ≤ a9; omega, by show a9 < 8; omega⟩ hmo1
        rw [show mx [56, 57, 58, 71, fv 62 11] f (wv f1 (fv 62 11) 0 a9) = (wv (mx [56, 57, 58, 71, fv 62 11] f f1) (fv 62 11) 0 a9) from ((mx_wv rfl rfl)).symm] at hk
        exact hk
      · refine ⟨show inr (a9 + 1) from by constructor <;> omega, ?_⟩
        refine hB (8 - (a9 + 1) : Int).toNat ?_ ⟨rfl, (a9 + 1), f1, g1, rfl, rfl, rfl, rfl, ?_, ?_, ?_, ?_, ?_, ?_⟩
        · omega
        · omega
        · exact hE
        · exact hh
        · exact hmo1
        · intro o h0 h1
          by_cases e : o = a9
          · rw [e]; omega
          · exact hz o h0 (by omega)
        · omega
    · refine ⟨show (1 : Int) = 0 ∨ 1 = 1 from by decide, ?_⟩
      have hk := k0 f1 g1 (fun o h0 h1 => hz o h0 (by omega)) (by rw [hh]; exact hhu) hmo1
      exact hk
  · have hrw1 := hrw.1
    refine hO (k_earnsFrom_rm (by omega) (show 0 ≤ 0 ∧ 0 ≤ (f (fv 64 1) 0) from by omega) (show 0 = 0 ∨ isL (f 65) (f (fv 64 1) 0) (0 - 1) = false from Or.inl rfl) (show rowB (f (fv 64 1) 0) 12 (f 65) from hrw) (show (coB f) from hcb) (show (abOK f) from hab) (show (lC f) from hl) (show lwask (f (fv 15 5) 0) (lwC f) from hA) (show 0 ≤ (f (fv 1 15) 0) ∧ (f (fv 1 15) 0) ≤ 9999 from hday) (show mOK (lwC f) g from hmo) (fun f1_3 g1_4 (hh_5 : mOK (lwC f) g1_4) => ?_))
    have hmoA := hh_5
    have hen : sI (enH (aC f) (f 7) (f (fv 1 15) 0) (lwC f) (f 65) (f (fv 64 1) 0) (f (fv 62 11) 0)) (f (fv 64 1) 0) - sI (enH (aC f) (f 7) (f (fv 1 15) 0) (lwC f) (f 65) (f (fv 64 1) 0) (f (fv 62 11) 0)) 0 = enI (aC f) (f 7) (f (fv 1 15) 0) (lwC f) (f 65) (f (fv 64 1) 0) (f (fv 62 11) 0) := by rw [sI_0, Int.sub_zero]; rfl
    refine ⟨show 0 ≤ (f (fv 62 11) 0 : Int) ∧ f (fv 62 11) 0 < 8 from by omega, ?_⟩
    refine ⟨fun (hh_6 : sI (enH (aC f) (f 7) (f (fv 1 15) 0) (lwC f) (f 65) (f (fv 64 1) 0) (f (fv 62 11) 0)) (f (fv 64 1) 0) - sI (enH (aC f) (f 7) (f (fv 1 15) 0) (lwC f) (f 65) (f (fv 64 1) 0) (f (fv 62 11) 0)) 0 < f 68 (f (fv 62 11) 0)) => ?_, fun (hh_6 : ¬ sI (enH (aC f) (f 7) (f (fv 1 15) 0) (lwC f) (f 65) (f (fv 64 1) 0) (f (fv 62 11) 0)) (f (fv 64 1) 0) - sI (enH (aC f) (f 7) (f (fv 1 15) 0) (lwC f) (f 65) (f (fv 64 1) 0) (f (fv 62 11) 0)) 0 < f 68 (f (fv 62 11) 0)) => ?_⟩
    · refine ⟨show (0 : Int) = 0 ∨ 0 = 1 from by decide, ?_⟩
      have hk := k1 (mx [56, 57, 58] f f1_3) g1_4 (fun h => by have := h (f (fv 62 11) 0) hhu.1 hhu.2; omega) hhu hmoA
      rw [show mx [56, 57, 58, 71, fv 62 11] f (mx [56, 57, 58] f f1_3) = (mx [56, 57, 58] f f1_3) from ((mx_mx rfl mx_rf)).symm] at hk
      exact hk
    · refine hO (k_earnings_rm_71 (by omega) (show rowB (f (fv 64 1) 0) 12 (f 65) from hrw) (show (coB f) from hcb) (show (abOK f) from hab) (show (lC f) from hl) (show lwask (f (fv 15 5) 0) (lwC f) from hA) (show 0 ≤ (f (fv 1 15) 0) ∧ (f (fv 1 15) 0) ≤ 9999 from hday) (show mOK (lwC f) g1_4 from hmoA) (fun f1_7 g1_8 (hh_9 : ∀ a, 0 ≤ a → a < 8 → f1_7 71 a = enI (aC f) (f 7) (f (fv 1 15) 0) (lwC f) (f 65) (f (fv 64 1) 0) a) (hh_10 : mOK (lwC f) g1_8) => ?_))
      have he0 := hh_9
      have hmoB := hh_10
      refine hF (8 - 0 : Int).toNat ?_ ⟨rfl, 0, (mx [56, 57, 58, 71] (mx [56, 57, 58] f f1_3) f1_7), g1_8, rfl, rfl, (mx_mx rfl (mx_mx rfl mx_rf)), rfl, ?_, ?_, ?_, ?_, ?_, ?_⟩
      · omega
      · omega
      · exact he0
      · rfl
      · exact hmoB
      · intro o h0 h1; omega
      · omega
set_option maxRecDepth 100000 in
set_option maxHeartbeats 4000000 in
theorem k_lack (hd : 2 ≤ d) (hrw : rowB (f (fv 64 1) 0) 12 (f 65)) (hcb : (coB f)) (hab : (abOK f)) (hnd : ∀ o, 0 ≤ o → o < 8 → 0 ≤ (f 69 o) ∧ (f 69 o) ≤ 99) (k0 : ∀ f1 : iF, (∀ o, 0 ≤ o → o < 8 → f1 70 o = cI (fun i => (aC f) (f 65 i) && decide ((f 7) (f 65 i) = o)) (f (fv 64 1) 0)) → Q (some (iI (sI (fun o => max 0 ((f 69 o) - f1 70 o)) 8))) (mx [70] f f1) g) : wq d 163 [iR 62] f g Q := by
  obtain ⟨d, rfl⟩ : ∃ e, d = e + 1 := ⟨d - 1, by omega⟩
  refine i_meth [(6, 2), (46, 3)] (fun n j lv st f' g' => (j = 6 ∧ ∃ (i : Int) (f1 : iF), lv = [some (iR 62), some (iI i)] ∧ st = [] ∧ f' = (mx [70] f f1) ∧ g = g' ∧ (0 ≤ i ∧ i ≤ f (fv 64 1) 0) ∧ (∀ o, 0 ≤ o → o < 8 → f1 70 o = cI (fun i => aC f (f 65 i) && decide (f 7 (f 65 i) = o)) i) ∧ (n : Int) = 30 - i) ∨ (j = 46 ∧ ∃ (c : Int) (k : Int) (f1 : iF), lv = [some (iR 62), some (iI c), some (iI k)] ∧ st = [] ∧ f' = (mx [70] f f1) ∧ g = g' ∧ (0 ≤ k ∧ k ≤ 8 ∧ 0 ≤ c ∧ c ≤ 99 * k) ∧ (∀ o, 0 ≤ o → o < 8 → f1 70 o = cI (fun i => aC f (f 65 i) && decide (f 7 (f 65 i) = o)) (f (fv 64 1) 0)) ∧ (c = sI (fun o => max 0 (f 69 o - f1 70 o)) k) ∧ (n : Int) = 8 - k)) 40 (by omega) rfl rfl (fun n j lv st f' g' hn hI O J hO hF hB => ?_) (fun hvs hin O J hO hF => ?_)
  · rcases hI with hI | hI
    · obtain ⟨rfl, i, f1, rfl, rfl, rfl, rfl, hi, hH, hm⟩ := hI
      have hrw1 := hrw.1
      have hcb1 := hcb.1
      refine ⟨fun (hh_1 : i < f (fv 64 1) 0) => ?_, fun (hh_1 : ¬ i < f (fv 64 1) 0) => ?_⟩
      · have hri := hrw.2 i (by omega) (by omega)
        refine hO (k_get_rm (by omega) (show 0 ≤ i ∧ i < 12 from by omega) ?_)
        refine hO (k_isAble (by omega) (show (abOK f) from hab) (fun (hh_2 : (aC f) (f 65 i) = true) => ?_) (fun (hh_3 : (aC f) (f 65 i) = false) => ?_))
        · have hac := aC_t.mp hh_2
          have hcs := hcb.2 (f 65 i) (by omega) (by omega)
          have hHa := hH (f 7 (f 65 i)) (by omega) (by omega)
          have hcl := cI_le (p := fun i_1 => aC f (f 65 i_1) && decide (f 7 (f 65 i_1) = f 7 (f 65 i))) (n := i) (by omega)
          refine ⟨fun h => absurd (show (1 : Int) = 0 from h) (by decide), fun _ => ?_⟩
          refine ⟨show 0 ≤ ((f 65 i) : Int) ∧ (f 65 i) < 29 from by omega, ?_⟩
          refine ⟨fun h => absurd (show f 7 (f 65 i) < 0 from h) (by omega), fun _ => ?_⟩
          refine ⟨fun _ => ?_, fun h => absurd (show f 7 (f 65 i) < 8 from by omega) h⟩
          refine ⟨show 0 ≤ (f 7 (f 65 i) : Int) ∧ f 7 (f 65 i) < 8 from by omega, ?_⟩
          refine Or.inl ⟨show inr ((f1 70 (f 7 (f 65 i))) + 1) from by constructor <;> omega, ?_⟩
          refine ⟨show 0 ≤ (f 7 (f 65 i) : Int) ∧ f 7 (f 65 i) < 8 from by omega, ?_⟩
          refine ⟨show inr (i + 1) from by constructor <;> omega, ?_⟩
          refine hB (30 - (i + 1) : Int).toNat ?_ (Or.inl ⟨rfl, (i + 1), (wv f1 70 (f 7 (f 65 i)) ((f1 70 (f 7 (f 65 i))) + 1)), rfl, rfl, (mx_wv rfl rfl), rfl, ?_, ?_, ?_⟩)
          · omega
          · omega
          · intro o h0 h1
            rw [wv_i]
            by_cases e : o = f 7 (f 65 i)
            · rw [if_pos e, cI_t (by omega) (by rw [‹aC f _ = true›, decide_eq_true e.symm]; rfl), e, ← hH _ (by omega) (by omega)]
            · rw [if_neg e, cI_f (by omega) (by rw [decide_eq_false (fun h => e h.symm), Bool.and_false])]; exact hH o h0 h1
          · omega
        · refine ⟨fun _ => ?_, fun h => absurd (show (0 : Int) = 0 from by decide) h⟩
          refine ⟨show inr (i + 1) from by constructor <;> omega, ?_⟩
          refine hB (30 - (i + 1) : Int).toNat ?_ (Or.inl ⟨rfl, (i + 1), f1, rfl, rfl, rfl, rfl, ?_, ?_, ?_⟩)
          · omega
          · omega
          · intro o h0 h1
            rw [cI_f (by omega) (by rw [‹aC f _ = false›]; rfl)]; exact hH o h0 h1
          · omega
      · refine hF (8 - 0 : Int).toNat ?_ (Or.inr (⟨rfl, 0, 0, f1, rfl, rfl, rfl, rfl, ?_, ?_, ?_, ?_⟩))
        · omega
        · omega
        · rw [show f (fv 64 1) 0 = i by omega]; exact hH
        · rfl
        · omega
    · obtain ⟨rfl, c, k, f1, rfl, rfl, rfl, rfl, hk, hH, hs, hm⟩ := hI
      have hrw1 := hrw.1
      refine ⟨fun (hh_4 : k < 8) => ?_, fun (hh_4 : ¬ k < 8) => ?_⟩
      · have hHk := hH k (by omega) (by omega)
        have hndk := hnd k (by omega) (by omega)
        have hcl := cI_le (p := fun i => aC f (f 65 i) && decide (f 7 (f 65 i) = k)) (n := f (fv 64 1) 0) (by omega)
        refine ⟨show 0 ≤ (k : Int) ∧ k < 8 from by omega, ?_⟩
        refine ⟨show 0 ≤ (k : Int) ∧ k < 8 from by omega, ?_⟩
        refine Or.inl ⟨show inr ((f 69 k) - (f1 70 k)) from by constructor <;> omega, ?_⟩
        refine Or.inl ⟨show inr (c + (max 0 ((f 69 k) - (f1 70 k)))) from by constructor <;> omega, ?_⟩
        refine ⟨show inr (k + 1) from by constructor <;> omega, ?_⟩
        refine hB (8 - (k + 1) : Int).toNat ?_ (Or.inr (⟨rfl, (c + (max 0 ((f 69 k) - (f1 70 k)))), (k + 1), f1, rfl, rfl, rfl, rfl, ?_, ?_, ?_, ?_⟩))
        · omega
        · omega
        · exact hH
        · rw [sI_s (by omega)]; omega
        · omega
      · rw [show k = 8 by omega] at hs
        have hk := k0 f1 hH
        rw [← hs] at hk
        exact hk
  · have hrw1 := hrw.1
    refine hO (k_fill_70 (by omega) (fun f1_5 (hh_6 : ∀ k, 0 ≤ k → k < 8 → f1_5 70 k = 0) => ?_))
    have hz0 := hh_6
    refine hF (30 - 0 : Int).toNat ?_ (Or.inl ⟨rfl, 0, f1_5, rfl, rfl, rfl, rfl, ?_, ?_, ?_⟩)
    · omega
    · omega
    · exact fun o h0 h1 => hz0 o h0 h1
    · omega
set_option maxRecDepth 100000 in
set_option maxHeartbeats 4000000 in
theorem k_isLack {s : Int} (hd : 2 ≤ d) (hcb : (coB f)) (hab : (abOK f)) (k0 : ((aC f) s = true ∧ (f 70 (f 7 s)) < (f 69 (f 7 s))) → Q (some (iI 1)) f g) (k1 : (¬ ((aC f) s = true ∧ (f 70 (f 7 s)) < (f 69 (f 7 s)))) → Q (some (iI 0)) f g) : wq d 164 [iR 62, iI s] f g Q := by
  obtain ⟨d, rfl⟩ : ∃ e, d = e + 1 := ⟨d - 1, by omega⟩
  refine i_meth0 rfl rfl (fun O J hO => ?_)
  refine hO (k_isAble (by omega) (show (abOK f) from hab) (fun (hh_1 : (aC f) s = true) => ?_) (fun (hh_2 : (aC f) s = false) => ?_))
  · have hac := aC_t.mp hh_1
    have hcs := hcb.2 s (by omega) (by omega)
    have hcb1 := hcb.1
    have hab9 := hh_1
    refine ⟨fun h => absurd (show (1 : Int) = 0 from h) (by decide), fun _ => ?_⟩
    refine ⟨show 0 ≤ (s : Int) ∧ s < 29 from by omega, ?_⟩
    refine ⟨fun h => absurd (show f 7 s < 0 from h) (by omega), fun _ => ?_⟩
    refine ⟨fun _ => ?_, fun h => absurd (show f 7 s < 8 from by omega) h⟩
    refine ⟨show 0 ≤ (f 7 s : Int) ∧ f 7 s < 8 from by omega, ?_⟩
    refine ⟨show 0 ≤ (f 7 s : Int) ∧ f 7 s < 8 from by omega, ?_⟩
    refine ⟨fun (hh_3 : f 70 (f 7 s) < f 69 (f 7 s)) => ?_, fun (hh_3 : ¬ f 70 (f 7 s) < f 69 (f 7 s)) => ?_⟩
    · refine ⟨show (1 : Int) = 0 ∨ 1 = 1 from by decide, ?_⟩
      exact k0 (by exact ⟨hab9, by assumption⟩)
    · refine ⟨show (0 : Int) = 0 ∨ 0 = 1 from by decide, ?_⟩
      exact k1 (by intro h; first | omega | (rw [h.1] at hab9; cases hab9))
  · have hab9 := hh_2
    refine ⟨fun _ => ?_, fun h => absurd (show (0 : Int) = 0 from by decide) h⟩
    refine ⟨fun _ => ?_, fun h => absurd (show ((-1) : Int) < 0 from by decide) h⟩
    refine ⟨show (0 : Int) = 0 ∨ 0 = 1 from by decide, ?_⟩
    exact k1 (by intro h; first | omega | (rw [h.1] at hab9; cases hab9))
set_option maxRecDepth 100000 in
set_option maxHeartbeats 4000000 in
theorem k_choicesAt {i : Int} (hd : 1 ≤ d) (hi : 0 ≤ i ∧ i < 12) (k0 : Q (some (iI (f 67 i))) f g) : wq d 168 [iR 62, iI i] f g Q := by
  obtain ⟨d, rfl⟩ : ∃ e, d = e + 1 := ⟨d - 1, by omega⟩
  refine i_meth0 rfl rfl (fun O J hO => ?_)
  refine ⟨fun h => absurd (show i < 0 from h) (by omega), fun _ => ?_⟩
  refine ⟨fun _ => ?_, fun h => absurd (show i < 12 from by omega) h⟩
  refine ⟨show 0 ≤ (i : Int) ∧ i < 12 from by omega, ?_⟩
  exact k0
set_option maxRecDepth 100000 in
set_option maxHeartbeats 4000000 in
theorem k_tell {nn pp qq : Int} (hd : 2 ≤ d) (hp : 0 ≤ pp ∧ pp < 12) (hq : -1 ≤ qq ∧ qq < 12) (k0 : (qq = (-1)) → Q none (wv (wv (wv f 63 0 nn) 63 1 pp) 63 2 (f 65 pp)) g) (k1 : (¬ qq = (-1)) → Q none (wv (wv (wv (wv (wv f 63 0 nn) 63 1 pp) 63 2 (f 65 pp)) 63 3 qq) 63 4 (f 65 qq)) g) : wq d 161 [iR 62, iI nn, iI pp, iI qq] f g Q := by
  obtain ⟨d, rfl⟩ : ∃ e, d = e + 1 := ⟨d - 1, by omega⟩
  refine i_meth0 rfl rfl (fun O J hO => ?_)
  refine ⟨show 0 ≤ (0 : Int) ∧ 0 < 5 from by decide, ?_⟩
  refine ⟨show 0 ≤ (1 : Int) ∧ 1 < 5 from by decide, ?_⟩
  refine hO (k_get_rm (by omega) (show 0 ≤ pp ∧ pp < 12 from by omega) ?_)
  refine ⟨show 0 ≤ (2 : Int) ∧ 2 < 5 from by decide, ?_⟩
  refine ⟨fun (hh_1 : qq = (-1)) => ?_, fun (hh_1 : ¬ qq = (-1)) => ?_⟩
  · exact k0 (by assumption)
  · refine ⟨show 0 ≤ (3 : Int) ∧ 3 < 5 from by decide, ?_⟩
    refine hO (k_get_rm (by omega) (show 0 ≤ qq ∧ qq < 12 from by omega) ?_)
    refine ⟨show 0 ≤ (4 : Int) ∧ 4 < 5 from by decide, ?_⟩
    exact k1 (by assumption)
set_option maxRecDepth 100000 in
set_option maxHeartbeats 4000000 in
theorem k_needs (hd : 4 ≤ d) (hn : 0 ≤ (f (fv 64 1) 0) ∧ (f (fv 64 1) 0) ≤ 60) (hcb : (coB f)) (hst : ∀ o, 0 ≤ o → o < 8 → (f 4 o) = 0 ∨ (f 4 o) = 1) (hbr : ∀ o, 0 ≤ o → o < 8 → 0 ≤ (f 3 o) ∧ (f 3 o) ≤ 99) (hl : (lC f)) (hday : 0 ≤ (f (fv 1 15) 0) ∧ (f (fv 1 15) 0) ≤ 9999) (k0 : ∀ mo : Int, ∀ f1 : iF, (0 ≤ mo ∧ mo ≤ 99) → (∀ fa, bnd fa (bdF (f (fv 1 15) 0) (f (fv 64 1) 0)) → payM fa (lwC f) ≤ mo) → (∀ o, 0 ≤ o → o < 8 → lsP (f 4) (f 8) (f 7) (f 3) (f (fv 1 0) 0) o (f1 68 o) ∧ 0 ≤ f1 68 o ∧ f1 68 o ≤ 99 ∧ f1 69 o = ndI (f1 68 o) mo) → Q none (mx [57, 58, 68, 69] f f1) g) : wq d 162 [iR 62] f g Q := by
  obtain ⟨d, rfl⟩ : ∃ e, d = e + 1 := ⟨d - 1, by omega⟩
  refine i_meth [(9, 3), (31, 3), (45, 3)] (fun n j lv st f' g' => (j = 9 ∧ ∃ (mo : Int) (a9 : Int) (f1 : iF), lv = [some (iR 62), some (iI mo), some (iI a9)] ∧ st = [] ∧ f' = (mx [57, 58, 68, 69] f f1) ∧ g = g' ∧ (0 ≤ mo ∧ mo ≤ 99) ∧ (∀ fa, bnd fa (bdF (f (fv 1 15) 0) (f (fv 64 1) 0)) → payM fa (lwC f) ≤ mo) ∧ (0 ≤ a9 ∧ a9 ≤ 8) ∧ (∀ o, 0 ≤ o → o < a9 → lsP (f 4) (f 8) (f 7) (f 3) (f (fv 1 0) 0) o (f1 68 o) ∧ 0 ≤ f1 68 o ∧ f1 68 o ≤ 99 ∧ f1 69 o = ndI (f1 68 o) mo) ∧ (n : Int) = 8 * 4 - 4 * a9) ∨ (j = 31 ∧ ∃ (mo : Int) (a9 : Int) (x : Int) (f1 : iF), lv = [some (iR 62), some (iI mo), some (iI a9)] ∧ st = [(iI x)] ∧ f' = (mx [57, 58, 68, 69] f f1) ∧ g = g' ∧ (0 ≤ mo ∧ mo ≤ 99) ∧ (∀ fa, bnd fa (bdF (f (fv 1 15) 0) (f (fv 64 1) 0)) → payM fa (lwC f) ≤ mo) ∧ (0 ≤ a9 ∧ a9 < 8) ∧ (∀ o, 0 ≤ o → o < a9 → lsP (f 4) (f 8) (f 7) (f 3) (f (fv 1 0) 0) o (f1 68 o) ∧ 0 ≤ f1 68 o ∧ f1 68 o ≤ 99 ∧ f1 69 o = ndI (f1 68 o) mo) ∧ ((x = 1 ∧ (a9 < f (fv 1 0) 0 ∧ mst (f 4) (f 8) (f 7) a9)) ∨ (x = 0 ∧ ¬ (a9 < f (fv 1 0) 0 ∧ mst (f 4) (f 8) (f 7) a9))) ∧ (n : Int) = 8 * 4 - 4 * a9) ∨ (j = 45 ∧ ∃ (mo : Int) (a9 : Int) (f1 : iF), lv = [some (iR 62), some (iI mo), some (iI a9)] ∧ st = [] ∧ f' = (mx [57, 58, 68, 69] f f1) ∧ g = g' ∧ (0 ≤ mo ∧ mo ≤ 99) ∧ (∀ fa, bnd fa (bdF (f (fv 1 15) 0) (f (fv 64 1) 0)) → payM fa (lwC f) ≤ mo) ∧ (0 ≤ a9 ∧ a9 < 8) ∧ (∀ o, 0 ≤ o → o < a9 → lsP (f 4) (f 8) (f 7) (f 3) (f (fv 1 0) 0) o (f1 68 o) ∧ 0 ≤ f1 68 o ∧ f1 68 o ≤ 99 ∧ f1 69 o = ndI (f1 68 o) mo) ∧ (lsP (f 4) (f 8) (f 7) (f 3) (f (fv 1 0) 0) a9 (f1 68 a9)) ∧ (0 ≤ f1 68 a9 ∧ f1 68 a9 ≤ 99) ∧ (n : Int) = 8 * 4 - 4 * a9)) 40 (by omega) rfl rfl (fun n j lv st f' g' hn hI O J hO hF hB => ?_) (fun hvs hin O J hO hF => ?_)
  · rcases hI with hI | hI | hI
    · obtain ⟨rfl, mo, a9, f1, rfl, rfl, rfl, rfl, hm0, hmb, ha, hz, hm⟩ := hI
      have hcb1 := hcb.1
      refine ⟨fun (hh_1 : a9 < 8) => ?_, fun (hh_1 : ¬ a9 < 8) => ?_⟩
      · have hsta := hst a9 (by omega) (by omega)
        refine hO (k_has (by omega) (fun (hh_2 : 0 ≤ a9) (hh_3 : a9 < (f (fv 1 0) 0)) (hh_4 : a9 < 8) => ?_) (fun (hh_5 : ¬ (0 ≤ a9 ∧ a9 < (f (fv 1 0) 0) ∧ a9 < 8)) => ?_))
        · refine ⟨fun h => absurd (show (1 : Int) = 0 from h) (by decide), fun _ => ?_⟩
          refine ⟨show 0 ≤ (a9 : Int) ∧ a9 < 8 from by omega, ?_⟩
          refine ⟨fun (hh_6 : f 4 a9 = 0) => ?_, fun (hh_6 : ¬ f 4 a9 = 0) => ?_⟩
          · refine hO (k_ownsU (by omega) (fun (hh_7 : ∃ s, 0 ≤ s ∧ s < 29 ∧ (f 7 s) = a9 ∧ (f 8 s) = 0) => ?_) (fun (hh_8 : ¬ ∃ s, 0 ≤ s ∧ s < 29 ∧ (f 7 s) = a9 ∧ (f 8 s) = 0) => ?_))
            · refine ⟨fun h => absurd (show (1 : Int) = 0 from h) (by decide), fun _ => ?_⟩
              refine hF (8 * 4 - 4 * a9 : Int).toNat ?_ (Or.inr (Or.inl ⟨rfl, mo, a9, 1, f1, rfl, rfl, rfl, rfl, ?_, ?_, ?_, ?_, ?_, ?_⟩))
              · omega
              · first | exact hm0 | assumption
              · first | exact hmb | assumption
              · omega
              · first | exact hz | (intro o h0 h1; omega)
              · first | exact Or.inl ⟨rfl, by omega, by omega, by assumption⟩ | exact Or.inr ⟨rfl, fun h => by first | omega | exact h.2.1 (by omega) | exact absurd h.2.2 (by assumption)⟩
              · omega
            · refine ⟨fun _ => ?_, fun h => absurd (show (0 : Int) = 0 from by decide) h⟩
              refine hF (8 * 4 - 4 * a9 : Int).toNat ?_ (Or.inr (Or.inl ⟨rfl, mo, a9, 0, f1, rfl, rfl, rfl, rfl, ?_, ?_, ?_, ?_, ?_, ?_⟩))
              · omega
              · first | exact hm0 | assumption
              · first | exact hmb | assumption
              · omega
              · first | exact hz | (intro o h0 h1; omega)
              · first | exact Or.inl ⟨rfl, by omega, by omega, by assumption⟩ | exact Or.inr ⟨rfl, fun h => by first | omega | exact h.2.1 (by omega) | exact absurd h.2.2 (by assumption)⟩
              · omega
          · refine hF (8 * 4 - 4 * a9 : Int).toNat ?_ (Or.inr (Or.inl ⟨rfl, mo, a9, 0, f1, rfl, rfl, rfl, rfl, ?_, ?_, ?_, ?_, ?_, ?_⟩))
            · omega
            · first | exact hm0 | assumption
            · first | exact hmb | assumption
            · omega
            · first | exact hz | (intro o h0 h1; omega)
            · first | exact Or.inl ⟨rfl, by omega, by omega, by assumption⟩ | exact Or.inr ⟨rfl, fun h => by first | omega | exact h.2.1 (by omega) | exact absurd h.2.2 (by assumption)⟩
            · omega
        · refine ⟨fun _ => ?_, fun h => absurd (show (0 : Int) = 0 from by decide) h⟩
          refine hF (8 * 4 - 4 * a9 : Int).toNat ?_ (Or.inr (Or.inl ⟨rfl, mo, a9, 0, f1, rfl, rfl, rfl, rfl, ?_, ?_, ?_, ?_, ?_, ?_⟩))
          · omega
          · first | exact hm0 | assumption
          · first | exact hmb | assumption
          · omega
          · first | exact hz | (intro o h0 h1; omega)
          · first | exact Or.inl ⟨rfl, by omega, by omega, by assumption⟩ | exact Or.inr ⟨rfl, fun h => by first | omega | exact h.2.1 (by omega) | exact absurd h.2.2 (by assumption)⟩
          · omega
      · exact k0 mo f1 hm0 hmb (fun o h0 h1 => hz o h0 (by omega))
    · obtain ⟨rfl, mo, a9, x, f1, rfl, rfl, rfl, rfl, hm0, hmb, ha, hz, hx, hm⟩ := hI
      have hcb1 := hcb.1
      have hbra := hbr a9 (by omega) (by omega)
      refine ⟨fun (hh_9 : x = 0) => ?_, fun (hh_9 : ¬ x = 0) => ?_⟩
      · refine ⟨show 0 ≤ (a9 : Int) ∧ a9 < 8 from by omega, ?_⟩
        refine hF (8 * 4 - 4 * a9 : Int).toNat ?_ (Or.inr (Or.inr (⟨rfl, mo, a9, (wv f1 68 a9 0), rfl, rfl, (mx_wv rfl rfl), rfl, ?_, ?_, ?_, ?_, ?_, ?_, ?_⟩)))
        · omega
        · first | exact hm0 | assumption
        · first | exact hmb | assumption
        · omega
        · intro o h0 h1
          have q := hz o h0 h1
          rw [wv_k (by omega)]
          exact q
        · rw [wv_s]
          rcases hx with ⟨q0, q⟩ | ⟨q0, q⟩
          · first | exact Or.inl ⟨q.1, q.2, rfl⟩ | (exfalso; omega)
          · first | exact Or.inr ⟨q, rfl⟩ | (exfalso; omega)
        · rw [wv_s]; omega
        · omega
      · refine ⟨show 0 ≤ (a9 : Int) ∧ a9 < 8 from by omega, ?_⟩
        refine ⟨show 0 ≤ (a9 : Int) ∧ a9 < 8 from by omega, ?_⟩
        refine hF (8 * 4 - 4 * a9 : Int).toNat ?_ (Or.inr (Or.inr (⟨rfl, mo, a9, (wv f1 68 a9 (f 3 a9)), rfl, rfl, (mx_wv rfl rfl), rfl, ?_, ?_, ?_, ?_, ?_, ?_, ?_⟩)))
        · omega
        · first | exact hm0 | assumption
        · first | exact hmb | assumption
        · omega
        · intro o h0 h1
          have q := hz o h0 h1
          rw [wv_k (by omega)]
          exact q
        · rw [wv_s]
          rcases hx with ⟨q0, q⟩ | ⟨q0, q⟩
          · first | exact Or.inl ⟨q.1, q.2, rfl⟩ | (exfalso; omega)
          · first | exact Or.inr ⟨q, rfl⟩ | (exfalso; omega)
        · rw [wv_s]; omega
        · omega
    · obtain ⟨rfl, mo, a9, f1, rfl, rfl, rfl, rfl, hm0, hmb, ha, hz, hx68, hb68, hm⟩ := hI
      have hcb1 := hcb.1
      refine ⟨show 0 ≤ (a9 : Int) ∧ a9 < 8 from by omega, ?_⟩
      refine ⟨show 0 ≤ (a9 : Int) ∧ a9 < 8 from by omega, ?_⟩
      refine ⟨fun (hh_10 : 0 < mo) => ?_, fun (hh_10 : ¬ 0 < mo) => ?_⟩
      · have hnv : ndI (f1 68 a9) mo = (f1 68 a9 + mo - 1).tdiv mo := by unfold ndI; rw [if_pos (by omega), Int.tdiv_eq_ediv_of_nonneg (by omega)]
        have hndr := ndI_r hb68 hm0.1
        refine ⟨show 0 ≤ (a9 : Int) ∧ a9 < 8 from by omega, ?_⟩
        refine Or.inl ⟨show inr ((f1 68 a9) + mo) from by constructor <;> omega, ?_⟩
        refine Or.inl ⟨show inr (((f1 68 a9) + mo) - 1) from by constructor <;> omega, ?_⟩
        refine ⟨show ¬ (mo : Int) = 0 from by omega, show inr ((((f1 68 a9) + mo) - 1).tdiv mo) from by (rw [← hnv]; constructor <;> omega), ?_⟩
        refine ⟨show 0 ≤ (a9 : Int) ∧ a9 < 8 from by omega, ?_⟩
        refine ⟨show inr (a9 + 1) from by constructor <;> omega, ?_⟩
        refine hB (8 * 4 - 4 * (a9 + 1) : Int).toNat ?_ (Or.inl ⟨rfl, mo, (a9 + 1), (wv (wv f1 69 a9 (f1 68 a9)) 69 a9 ((((f1 68 a9) + mo) - 1).tdiv mo)), rfl, rfl, (mx_wv rfl (mx_wv rfl rfl)), rfl, ?_, ?_, ?_, ?_, ?_⟩)
        · omega
        · first | exact hm0 | assumption
        · first | exact hmb | assumption
        · omega
        · intro o h0 h1
          by_cases e : o = a9
          · rw [e]
            exact ⟨hx68, hb68.1, hb68.2, by rw [wv_s]; exact hnv.symm⟩
          · have q := hz o h0 (by omega)
            refine ⟨q.1, q.2.1, q.2.2.1, ?_⟩
            show wv (wv f1 69 a9 _) 69 a9 _ 69 o = _
            rw [wv_k e, wv_k e]
            exact q.2.2.2
        · omega
      · have hnv : ndI (f1 68 a9) mo = f1 68 a9 := by unfold ndI; rw [if_neg (by omega)]
        refine ⟨show inr (a9 + 1) from by constructor <;> omega, ?_⟩
        refine hB (8 * 4 - 4 * (a9 + 1) : Int).toNat ?_ (Or.inl ⟨rfl, mo, (a9 + 1), (wv f1 69 a9 (f1 68 a9)), rfl, rfl, (mx_wv rfl rfl), rfl, ?_, ?_, ?_, ?_, ?_⟩)
        · omega
        · first | exact hm0 | assumption
        · first | exact hmb | assumption
        · omega
        · intro o h0 h1
          by_cases e : o = a9
          · rw [e]
            exact ⟨hx68, hb68.1, hb68.2, by rw [wv_s]; exact hnv.symm⟩
          · have q := hz o h0 (by omega)
            refine ⟨q.1, q.2.1, q.2.2.1, ?_⟩
            show wv f1 69 a9 _ 69 o = _
            rw [wv_k e]
            exact q.2.2.2
        · omega
  · refine hO (k_pmost (by omega) (show 0 ≤ (f (fv 64 1) 0) ∧ (f (fv 64 1) 0) ≤ 60 from by omega) (show (lC f) from hl) (show 0 ≤ (f (fv 1 15) 0) ∧ (f (fv 1 15) 0) ≤ 9999 from hday) (fun r_11 f1_12 (hh_13 : 0 ≤ r_11 ∧ r_11 ≤ 99) (hh_14 : ∀ fa, bnd fa (bdF (f (fv 1 15) 0) (f (fv 64 1) 0)) → payM fa (lwC f) ≤ r_11) => ?_))
    have hq0 := hh_13
    have hq1 := hh_14
    refine hF (8 * 4 - 4 * 0 : Int).toNat ?_ (Or.inl ⟨rfl, r_11, 0, (mx [57, 58] f f1_12), rfl, rfl, (mx_mx rfl mx_rf), rfl, ?_, ?_, ?_, ?_, ?_⟩)
    · omega
    · first | exact hm0 | assumption
    · first | exact hmb | assumption
    · omega
    · intro o h0 h1; omega
    · omega
end C33
