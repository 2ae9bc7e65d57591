section C30
variable {d : Nat} {f : iF} {g : iG} {Q : Option iv → iF → iG → Prop}
set_option maxRecDepth 100000 in
set_option maxHeartbeats 4000000 in
theorem k_lay {wo fm : Int} (hd : 5 ≤ d) (hfm : 0 ≤ fm ∧ fm ≤ 46) (hpre : ∀ q, 0 ≤ q → q < fm → 0 ≤ (f 75 q) ∧ (f 75 q) ≤ 29) (hw : 0 ≤ wo ∧ wo < (f (fv 12 2) 0)) (hwl : wlB (f 14) (f 13) (f (fv 12 2) 0)) (hcb : (coB f)) (hab : (abOK f)) (hl : (lC f)) (hA : lwask (f (fv 15 5) 0) (lwC f)) (hday : 0 ≤ (f (fv 1 15) 0) ∧ (f (fv 1 15) 0) ≤ 9999) (hmo : mOK (lwC f) g) (k0 : ∀ f1 : iF, ∀ g1 : iG, (fm = 0) → (f1 (fv 74 1) 0 = (f 14 wo)) → (∀ q, 0 ≤ q → q < (f 14 wo) → f1 75 q = (f 13 (12 * wo + q))) → (mOK (lwC f) g1) → Q (some (iI (sI (enH (aC f) (f 7) (f (fv 1 15) 0) (lwC f) (f1 75) (f1 (fv 74 1) 0) (f (fv 72 0) 0)) (f1 (fv 74 1) 0) - sI (enH (aC f) (f 7) (f (fv 1 15) 0) (lwC f) (f1 75) (f1 (fv 74 1) 0) (f (fv 72 0) 0)) 0))) (mx [75, fv 74 1, 56, 57, 58] f f1) g1) (k1 : ∀ f1 : iF, ∀ g1 : iG, (0 < fm) → (f1 (fv 74 1) 0 = fm + 1 + (f 14 wo)) → (f1 75 fm = 29) → (∀ q, 0 ≤ q → q < (f 14 wo) → f1 75 (fm + 1 + q) = (f 13 (12 * wo + q))) → (∀ q, 0 ≤ q → q < fm → f1 75 q = (f 75 q)) → (mOK (lwC f) g1) → Q (some (iI (sI (enH (aC f) (f 7) (f (fv 1 15) 0) (lwC f) (f1 75) (f1 (fv 74 1) 0) (f (fv 72 0) 0)) (f1 (fv 74 1) 0) - sI (enH (aC f) (f 7) (f (fv 1 15) 0) (lwC f) (f1 75) (f1 (fv 74 1) 0) (f (fv 72 0) 0)) (fm + 1)))) (mx [75, fv 74 1, 56, 57, 58] f f1) g1) : wq d 95 [iR 72, iI wo, iI fm] f g Q := by
  obtain ⟨d, rfl⟩ : ∃ e, d = e + 1 := ⟨d - 1, by omega⟩
  refine i_meth [(16, 5)] (fun n j lv st f' g' => (j = 16 ∧ ∃ (bg : Int) (i : Int) (f1 : iF), lv = [some (iR 72), some (iI wo), some (iI fm), some (iI bg), some (iI i)] ∧ st = [] ∧ f' = (mx [75, fv 74 1, 56, 57, 58] f f1) ∧ g = g' ∧ (0 ≤ i ∧ i ≤ f 14 wo) ∧ ((fm = 0 ∧ bg = 0) ∨ (0 < fm ∧ bg = fm + 1 ∧ f1 75 fm = 29)) ∧ (f1 (fv 74 1) 0 = bg + i) ∧ (∀ q, 0 ≤ q → q < i → f1 75 (bg + q) = f 13 (12 * wo + q)) ∧ (∀ q, 0 ≤ q → q < fm → f1 75 q = f 75 q) ∧ (n : Int) = f 14 wo - i)) 12 (by omega) rfl rfl (fun n j lv st f' g' hn hI O J hO hF hB => ?_) (fun hvs hin O J hO hF => ?_)
  · obtain ⟨rfl, bg, i, f1, rfl, rfl, rfl, rfl, hi, hs, hm1, hz, hj, hm⟩ := hI
    have hb0 : 0 ≤ bg ∧ bg ≤ 47 := by rcases hs with q | q <;> omega
    have hwl1 := hwl.1
    have hwx := hwl.2 wo hw.1 hw.2
    refine hO (k_lenOf (by omega) (show 0 ≤ wo ∧ wo < (f (fv 12 2) 0) ∧ (f (fv 12 2) 0) ≤ 20 from by omega) ?_)
    refine ⟨fun (hh_1 : i < (f 14 wo)) => ?_, fun (hh_1 : ¬ i < (f 14 wo)) => ?_⟩
    · refine hO (k_letter (by omega) (show 0 ≤ wo ∧ wo < 20 ∧ 0 ≤ i ∧ i < 12 from by omega) ?_)
      refine hO (k_add_bk (by omega) (show 0 ≤ (f1 (fv 74 1) 0) ∧ (f1 (fv 74 1) 0) < 60 from by omega) ?_)
      refine ⟨show inr (i + 1) from by constructor <;> omega, ?_⟩
      refine hB (f 14 wo - (i + 1) : Int).toNat ?_ ⟨rfl, bg, (i + 1), (wv (wv f1 75 (f1 (fv 74 1) 0) (f 13 (wo * 12 + i))) (fv 74 1) 0 ((f1 (fv 74 1) 0) + 1)), rfl, rfl, (mx_wv rfl (mx_wv rfl rfl)), rfl, ?_, ?_, ?_, ?_, ?_, ?_⟩
      · omega
      · omega
      · rcases hs with q | q
        · exact Or.inl q
        · refine Or.inr ⟨q.1, q.2.1, ?_⟩
          show wv f1 75 (f1 (fv 74 1) 0) (f 13 (wo * 12 + i)) 75 fm = 29
          rw [wv_k (by omega)]; exact q.2.2
      · show f1 (fv 74 1) 0 + 1 = _; omega
      · intro q h0 h1
        show wv f1 75 (f1 (fv 74 1) 0) (f 13 (wo * 12 + i)) 75 (bg + q) = _
        rw [wv_i]
        by_cases e : q = i
        · rw [if_pos (by omega), e, Int.mul_comm]
        · rw [if_neg (by omega)]; exact hz q h0 (by omega)
      · intro k h0 h1
        show wv f1 75 (f1 (fv 74 1) 0) (f 13 (wo * 12 + i)) 75 k = _
        rw [wv_k (by rcases hs with q | q <;> omega)]; exact hj k h0 h1
      · omega
    · refine hO (k_earnsFrom_bk (by omega) (show 0 ≤ bg ∧ bg ≤ (f1 (fv 74 1) 0) from by omega) (show bg = 0 ∨ isL (f1 75) (f1 (fv 74 1) 0) (bg - 1) = false from by rcases hs with q | q; exact Or.inl q.2; exact Or.inr (isL_f.mpr (fun h => by rw [q.2.1, show fm + 1 - 1 = fm by omega, q.2.2] at h; omega))) (show rowB (f1 (fv 74 1) 0) 60 (f1 75) from by exact ⟨by omega, fun k h0 h1 => by
        rcases hs with ⟨q1, q2⟩ | ⟨q1, q2, q3⟩
        · have := hz k h0 (by omega)
          rw [q2, Int.zero_add] at this
          rw [this]; have := hwx.2.2 k h0 (by omega); omega
        · by_cases e : k < fm
          · rw [hj k h0 e]; exact hpre k h0 e
          · by_cases e2 : k = fm
            · rw [e2, q3]; omega
            · have := hz (k - bg) (by omega) (by omega)
              rw [show bg + (k - bg) = k by omega] at this
              rw [this]; have := hwx.2.2 (k - bg) (by omega) (by omega); omega⟩) (show (coB f) from hcb) (show (abOK f) from hab) (show (lC f) from hl) (show lwask (f (fv 15 5) 0) (lwC f) from hA) (show 0 ≤ (f (fv 1 15) 0) ∧ (f (fv 1 15) 0) ≤ 9999 from hday) (show mOK (lwC f) g from hmo) (fun f1_2 g1_3 (hh_4 : mOK (lwC f) g1_3) => ?_))
      have hiL : i = f 14 wo := by omega
      rw [hiL] at hz hm1
      rcases hs with ⟨q1, q2⟩ | ⟨q1, q2, q3⟩
      · subst q2
        have hk := k0 (mx [56, 57, 58] f1 f1_2) g1_3 q1 (by show f1 (fv 74 1) 0 = _; omega) (fun q h0 h1 => by have := hz q h0 h1; rw [Int.zero_add] at this; exact this) (by assumption)
        rw [show mx [75, fv 74 1, 56, 57, 58] f (mx [56, 57, 58] f1 f1_2) = (mx [56, 57, 58] (mx [75, fv 74 1, 56, 57, 58] f f1) f1_2) from ((mx_mx rfl rfl)).symm] at hk
        exact hk
      · subst q2
        have hk := k1 (mx [56, 57, 58] f1 f1_2) g1_3 q1 (by show f1 (fv 74 1) 0 = _; omega) q3 hz hj (by assumption)
        rw [show mx [75, fv 74 1, 56, 57, 58] f (mx [56, 57, 58] f1 f1_2) = (mx [56, 57, 58] (mx [75, fv 74 1, 56, 57, 58] f f1) f1_2) from ((mx_mx rfl rfl)).symm] at hk
        exact hk
  · have hwl1 := hwl.1
    have hwx := hwl.2 wo hw.1 hw.2
    refine ⟨fun (hh_5 : 0 < fm) => ?_, fun (hh_5 : ¬ 0 < fm) => ?_⟩
    · refine hO (k_add_bk (by omega) (show 0 ≤ (fm) ∧ (fm) < 60 from by omega) ?_)
      refine hF (f 14 wo - 0 : Int).toNat ?_ ⟨rfl, (fm) + 1, 0, (wv (wv (wv f (fv 74 1) 0 fm) 75 (fm) 29) (fv 74 1) 0 ((fm) + 1)), rfl, rfl, (mx_wv rfl (mx_wv rfl (mx_wv rfl mx_rf))), rfl, ?_, ?_, ?_, ?_, ?_, ?_⟩
      · omega
      · omega
      · first | exact Or.inr ⟨by assumption, rfl, wv_s⟩ | exact Or.inl ⟨by omega, by omega⟩
      · first | rfl | (show fm = fm + 0; omega) | (show fm + 1 = fm + 1 + 0; omega)
      · intro q h0 h1; omega
      · intro k h0 h1
        first | rfl | (show wv _ 75 _ 29 75 k = _; rw [wv_k (by omega)]; rfl)
      · omega
    · refine hF (f 14 wo - 0 : Int).toNat ?_ ⟨rfl, fm, 0, (wv f (fv 74 1) 0 fm), rfl, rfl, (mx_wv rfl mx_rf), rfl, ?_, ?_, ?_, ?_, ?_, ?_⟩
      · omega
      · omega
      · first | exact Or.inr ⟨by assumption, rfl, wv_s⟩ | exact Or.inl ⟨by omega, by omega⟩
      · first | rfl | (show fm = fm + 0; omega) | (show fm + 1 = fm + 1 + 0; omega)
      · intro q h0 h1; omega
      · intro k h0 h1
        first | rfl | (show wv _ 75 _ 29 75 k = _; rw [wv_k (by omega)]; rfl)
      · omega
set_option maxRecDepth 100000 in
set_option maxHeartbeats 4000000 in
theorem k_weigh {en xi yj zk : Int} (hd : 1 ≤ d) (k0 : ((f 73 0) < en ∨ (en = (f 73 0) ∧ ((yj = (-1) ∧ ¬ (f 73 2) = (-1)) ∨ (zk = (-1) ∧ ¬ (f 73 3) = (-1))))) → Q none (wv (wv (wv (wv f 73 0 en) 73 1 xi) 73 2 yj) 73 3 zk) g) (k1 : (¬ ((f 73 0) < en ∨ (en = (f 73 0) ∧ ((yj = (-1) ∧ ¬ (f 73 2) = (-1)) ∨ (zk = (-1) ∧ ¬ (f 73 3) = (-1)))))) → Q none f g) : wq d 96 [iR 72, iI en, iI xi, iI yj, iI zk] f g Q := by
  obtain ⟨d, rfl⟩ : ∃ e, d = e + 1 := ⟨d - 1, by omega⟩
  refine i_meth0 rfl rfl (fun O J hO => ?_)
  refine ⟨fun (hh_1 : yj = (-1)) => ?_, fun (hh_1 : ¬ yj = (-1)) => ?_⟩
  · refine ⟨show 0 ≤ (2 : Int) ∧ 2 < 4 from by decide, ?_⟩
    refine ⟨fun (hh_2 : f 73 2 = (-1)) => ?_, fun (hh_2 : ¬ f 73 2 = (-1)) => ?_⟩
    · refine ⟨fun (hh_3 : zk = (-1)) => ?_, fun (hh_3 : ¬ zk = (-1)) => ?_⟩
      · refine ⟨show 0 ≤ (3 : Int) ∧ 3 < 4 from by decide, ?_⟩
        refine ⟨fun (hh_4 : f 73 3 = (-1)) => ?_, fun (hh_4 : ¬ f 73 3 = (-1)) => ?_⟩
        · refine ⟨show 0 ≤ (0 : Int) ∧ 0 < 4 from by decide, ?_⟩
          refine ⟨fun (hh_5 : f 73 0 < en) => ?_, fun (hh_5 : ¬ f 73 0 < en) => ?_⟩
          · refine ⟨show 0 ≤ (0 : Int) ∧ 0 < 4 from by decide, ?_⟩
            refine ⟨show 0 ≤ (1 : Int) ∧ 1 < 4 from by decide, ?_⟩
            refine ⟨show 0 ≤ (2 : Int) ∧ 2 < 4 from by decide, ?_⟩
            refine ⟨show 0 ≤ (3 : Int) ∧ 3 < 4 from by decide, ?_⟩
            exact k0 (by omega)
          · refine ⟨show 0 ≤ (0 : Int) ∧ 0 < 4 from by decide, ?_⟩
            refine ⟨fun (hh_6 : en = f 73 0) => ?_, fun (hh_6 : ¬ en = f 73 0) => ?_⟩
            · refine ⟨fun _ => ?_, fun h => absurd (show (0 : Int) = 0 from by decide) h⟩
              exact k1 (by omega)
            · exact k1 (by omega)
        · refine ⟨show 0 ≤ (0 : Int) ∧ 0 < 4 from by decide, ?_⟩
          refine ⟨fun (hh_7 : f 73 0 < en) => ?_, fun (hh_7 : ¬ f 73 0 < en) => ?_⟩
          · refine ⟨show 0 ≤ (0 : Int) ∧ 0 < 4 from by decide, ?_⟩
            refine ⟨show 0 ≤ (1 : Int) ∧ 1 < 4 from by decide, ?_⟩
            refine ⟨show 0 ≤ (2 : Int) ∧ 2 < 4 from by decide, ?_⟩
            refine ⟨show 0 ≤ (3 : Int) ∧ 3 < 4 from by decide, ?_⟩
            exact k0 (by omega)
          · refine ⟨show 0 ≤ (0 : Int) ∧ 0 < 4 from by decide, ?_⟩
            refine ⟨fun (hh_8 : en = f 73 0) => ?_, fun (hh_8 : ¬ en = f 73 0) => ?_⟩
            · refine ⟨fun h => absurd (show (1 : Int) = 0 from h) (by decide), fun _ => ?_⟩
              refine ⟨show 0 ≤ (0 : Int) ∧ 0 < 4 from by decide, ?_⟩
              refine ⟨show 0 ≤ (1 : Int) ∧ 1 < 4 from by decide, ?_⟩
              refine ⟨show 0 ≤ (2 : Int) ∧ 2 < 4 from by decide, ?_⟩
              refine ⟨show 0 ≤ (3 : Int) ∧ 3 < 4 from by decide, ?_⟩
              exact k0 (by omega)
            · exact k1 (by omega)
      · refine ⟨show 0 ≤ (0 : Int) ∧ 0 < 4 from by decide, ?_⟩
        refine ⟨fun (hh_9 : f 73 0 < en) => ?_, fun (hh_9 : ¬ f 73 0 < en) => ?_⟩
        · refine ⟨show 0 ≤ (0 : Int) ∧ 0 < 4 from by decide, ?_⟩
          refine ⟨show 0 ≤ (1 : Int) ∧ 1 < 4 from by decide, ?_⟩
          refine ⟨show 0 ≤ (2 : Int) ∧ 2 < 4 from by decide, ?_⟩
          refine ⟨show 0 ≤ (3 : Int) ∧ 3 < 4 from by decide, ?_⟩
          exact k0 (by omega)
        · refine ⟨show 0 ≤ (0 : Int) ∧ 0 < 4 from by decide, ?_⟩
          refine ⟨fun (hh_10 : en = f 73 0) => ?_, fun (hh_10 : ¬ en = f 73 0) => ?_⟩
          · refine ⟨fun _ => ?_, fun h => absurd (show (0 : Int) = 0 from by decide) h⟩
            exact k1 (by omega)
          · exact k1 (by omega)
    · refine ⟨show 0 ≤ (0 : Int) ∧ 0 < 4 from by decide, ?_⟩
      refine ⟨fun (hh_11 : f 73 0 < en) => ?_, fun (hh_11 : ¬ f 73 0 < en) => ?_⟩
      · refine ⟨show 0 ≤ (0 : Int) ∧ 0 < 4 from by decide, ?_⟩
        refine ⟨show 0 ≤ (1 : Int) ∧ 1 < 4 from by decide, ?_⟩
        refine ⟨show 0 ≤ (2 : Int) ∧ 2 < 4 from by decide, ?_⟩
        refine ⟨show 0 ≤ (3 : Int) ∧ 3 < 4 from by decide, ?_⟩
        exact k0 (by omega)
      · refine ⟨show 0 ≤ (0 : Int) ∧ 0 < 4 from by decide, ?_⟩
        refine ⟨fun (hh_12 : en = f 73 0) => ?_, fun (hh_12 : ¬ en = f 73 0) => ?_⟩
        · refine ⟨fun h => absurd (show (1 : Int) = 0 from h) (by decide), fun _ => ?_⟩
          refine ⟨show 0 ≤ (0 : Int) ∧ 0 < 4 from by decide, ?_⟩
          refine ⟨show 0 ≤ (1 : Int) ∧ 1 < 4 from by decide, ?_⟩
          refine ⟨show 0 ≤ (2 : Int) ∧ 2 < 4 from by decide, ?_⟩
          refine ⟨show 0 ≤ (3 : Int) ∧ 3 < 4 from by decide, ?_⟩
          exact k0 (by omega)
        · exact k1 (by omega)
  · refine ⟨fun (hh_13 : zk = (-1)) => ?_, fun (hh_13 : ¬ zk = (-1)) => ?_⟩
    · refine ⟨show 0 ≤ (3 : Int) ∧ 3 < 4 from by decide, ?_⟩
      refine ⟨fun (hh_14 : f 73 3 = (-1)) => ?_, fun (hh_14 : ¬ f 73 3 = (-1)) => ?_⟩
      · refine ⟨show 0 ≤ (0 : Int) ∧ 0 < 4 from by decide, ?_⟩
        refine ⟨fun (hh_15 : f 73 0 < en) => ?_, fun (hh_15 : ¬ f 73 0 < en) => ?_⟩
        · refine ⟨show 0 ≤ (0 : Int) ∧ 0 < 4 from by decide, ?_⟩
          refine ⟨show 0 ≤ (1 : Int) ∧ 1 < 4 from by decide, ?_⟩
          refine ⟨show 0 ≤ (2 : Int) ∧ 2 < 4 from by decide, ?_⟩
          refine ⟨show 0 ≤ (3 : Int) ∧ 3 < 4 from by decide, ?_⟩
          exact k0 (by omega)
        · refine ⟨show 0 ≤ (0 : Int) ∧ 0 < 4 from by decide, ?_⟩
          refine ⟨fun (hh_16 : en = f 73 0) => ?_, fun (hh_16 : ¬ en = f 73 0) => ?_⟩
          · refine ⟨fun _ => ?_, fun h => absurd (show (0 : Int) = 0 from by decide) h⟩
            exact k1 (by omega)
          · exact k1 (by omega)
      · refine ⟨show 0 ≤ (0 : Int) ∧ 0 < 4 from by decide, ?_⟩
        refine ⟨fun (hh_17 : f 73 0 < en) => ?_, fun (hh_17 : ¬ f 73 0 < en) => ?_⟩
        · refine ⟨show 0 ≤ (0 : Int) ∧ 0 < 4 from by decide, ?_⟩
          refine ⟨show 0 ≤ (1 : Int) ∧ 1 < 4 from by decide, ?_⟩
          refine ⟨show 0 ≤ (2 : Int) ∧ 2 < 4 from by decide, ?_⟩
          refine ⟨show 0 ≤ (3 : Int) ∧ 3 < 4 from by decide, ?_⟩
          exact k0 (by omega)
        · refine ⟨show 0 ≤ (0 : Int) ∧ 0 < 4 from by decide, ?_⟩
          refine ⟨fun (hh_18 : en = f 73 0) => ?_, fun (hh_18 : ¬ en = f 73 0) => ?_⟩
          · refine ⟨fun h => absurd (show (1 : Int) = 0 from h) (by decide), fun _ => ?_⟩
            refine ⟨show 0 ≤ (0 : Int) ∧ 0 < 4 from by decide, ?_⟩
            refine ⟨show 0 ≤ (1 : Int) ∧ 1 < 4 from by decide, ?_⟩
            refine ⟨show 0 ≤ (2 : Int) ∧ 2 < 4 from by decide, ?_⟩
            refine ⟨show 0 ≤ (3 : Int) ∧ 3 < 4 from by decide, ?_⟩
            exact k0 (by omega)
          · exact k1 (by omega)
    · refine ⟨show 0 ≤ (0 : Int) ∧ 0 < 4 from by decide, ?_⟩
      refine ⟨fun (hh_19 : f 73 0 < en) => ?_, fun (hh_19 : ¬ f 73 0 < en) => ?_⟩
      · refine ⟨show 0 ≤ (0 : Int) ∧ 0 < 4 from by decide, ?_⟩
        refine ⟨show 0 ≤ (1 : Int) ∧ 1 < 4 from by decide, ?_⟩
        refine ⟨show 0 ≤ (2 : Int) ∧ 2 < 4 from by decide, ?_⟩
        refine ⟨show 0 ≤ (3 : Int) ∧ 3 < 4 from by decide, ?_⟩
        exact k0 (by omega)
      · refine ⟨show 0 ≤ (0 : Int) ∧ 0 < 4 from by decide, ?_⟩
        refine ⟨fun (hh_20 : en = f 73 0) => ?_, fun (hh_20 : ¬ en = f 73 0) => ?_⟩
        · refine ⟨fun _ => ?_, fun h => absurd (show (0 : Int) = 0 from by decide) h⟩
          exact k1 (by omega)
        · exact k1 (by omega)
set_option maxRecDepth 100000 in
set_option maxHeartbeats 4000000 in
theorem k_kseek {ap : Int} (hd : 6 ≤ d) (hap : 0 ≤ ap ∧ ap < 8) (hwl : wlB (f 14) (f 13) (f (fv 12 2) 0)) (hcb : (coB f)) (hl : (lC f)) (hA : lwask (f (fv 15 5) 0) (lwC f)) (hday : 0 ≤ (f (fv 1 15) 0) ∧ (f (fv 1 15) 0) ≤ 9999) (hmo : mOK (lwC f) g) (k0 : ∀ f1 : iF, ∀ g1 : iG, (f1 (fv 72 0) 0 = ap) → (¬ (f (fv 12 2) 0) = 0 → BuyP (vB (aC f) (f 7) (f (fv 1 15) 0) (lwC f) (f 14) (f 13) ap) (f (fv 12 2) 0) (fun w => f1 73 w)) → (mOK (lwC f) g1) → Q none (mx [55, 56, 57, 58, 73, 75, fv 72 0, fv 74 1] f f1) g1) : wq d 94 [iR 72, iI ap] f g Q := by
  obtain ⟨d, rfl⟩ : ∃ e, d = e + 1 := ⟨d - 1, by omega⟩
  refine i_meth [(17, 4), (39, 7), (63, 10)] (fun n j lv st f' g' => (j = 17 ∧ ∃ (cnt : Int) (x : Int) (f1 : iF) (g1 : iG), lv = [some (iR 72), some (iI ap), some (iI cnt), some (iI x)] ∧ st = [] ∧ f' = (mx [55, 56, 57, 58, 73, 75, fv 72 0, fv 74 1] f f1) ∧ g1 = g' ∧ (cnt = (f (fv 12 2) 0)) ∧ (f1 (fv 72 0) 0 = ap) ∧ ((abOK (mx [55, 56, 57, 58, 73, 75, fv 72 0, fv 74 1] f f1))) ∧ (mOK (lwC f) g1) ∧ (0 ≤ x ∧ x ≤ cnt) ∧ (byI (vB (aC f) (f 7) (f (fv 1 15) 0) (lwC f) (f 14) (f 13) ap) (f (fv 12 2) 0) odc (x * 441) (f1 73 0) (f1 73 1) (f1 73 2) (f1 73 3)) ∧ (n : Int) = mC x) ∨ (j = 39 ∧ ∃ (cnt : Int) (x : Int) (one : Int) (e1 : Int) (y : Int) (f1 : iF) (g1 : iG), lv = [some (iR 72), some (iI ap), some (iI cnt), some (iI x), some (iI one), some (iI e1), some (iI y)] ∧ st = [] ∧ f' = (mx [55, 56, 57, 58, 73, 75, fv 72 0, fv 74 1] f f1) ∧ g1 = g' ∧ (cnt = (f (fv 12 2) 0)) ∧ (f1 (fv 72 0) 0 = ap) ∧ ((abOK (mx [55, 56, 57, 58, 73, 75, fv 72 0, fv 74 1] f f1))) ∧ (mOK (lwC f) g1) ∧ (one = (vB (aC f) (f 7) (f (fv 1 15) 0) (lwC f) (f 14) (f 13) ap) x (-1) (-1) ∧ e1 = f 14 x) ∧ (∀ q, 0 ≤ q → q < e1 → f1 75 q = rw3 (f 14) (f 13) x (-1) (-1) q) ∧ (0 ≤ x ∧ x < y ∧ x < cnt ∧ y ≤ cnt) ∧ (byI (vB (aC f) (f 7) (f (fv 1 15) 0) (lwC f) (f 14) (f 13) ap) (f (fv 12 2) 0) odc (x * 441 + (y + 1) * 21) (f1 73 0) (f1 73 1) (f1 73 2) (f1 73 3)) ∧ (n : Int) = mC (x + 1) + mA y + 1) ∨ (j = 63 ∧ ∃ (cnt : Int) (x : Int) (one : Int) (e1 : Int) (y : Int) (two : Int) (e2 : Int) (z : Int) (f1 : iF) (g1 : iG), lv = [some (iR 72), some (iI ap), some (iI cnt), some (iI x), some (iI one), some (iI e1), some (iI y), some (iI two), some (iI e2), some (iI z)] ∧ st = [] ∧ f' = (mx [55, 56, 57, 58, 73, 75, fv 72 0, fv 74 1] f f1) ∧ g1 = g' ∧ (cnt = (f (fv 12 2) 0)) ∧ (f1 (fv 72 0) 0 = ap) ∧ ((abOK (mx [55, 56, 57, 58, 73, 75, fv 72 0, fv 74 1] f f1))) ∧ (mOK (lwC f) g1) ∧ (one = (vB (aC f) (f 7) (f (fv 1 15) 0) (lwC f) (f 14) (f 13) ap) x (-1) (-1) ∧ e1 = f 14 x) ∧ (∀ q, 0 ≤ q → q < e1 → f1 75 q = rw3 (f 14) (f 13) x (-1) (-1) q) ∧ (two = (vB (aC f) (f 7) (f (fv 1 15) 0) (lwC f) (f 14) (f 13) ap) x y (-1) ∧ e2 = f 14 x + 1 + f 14 y) ∧ (∀ q, 0 ≤ q → q < e2 → f1 75 q = rw3 (f 14) (f 13) x y (-1) q) ∧ (0 ≤ x ∧ x < y ∧ y < z ∧ y < cnt ∧ z ≤ cnt) ∧ (byI (vB (aC f) (f 7) (f (fv 1 15) 0) (lwC f) (f 14) (f 13) ap) (f (fv 12 2) 0) odc (x * 441 + (y + 1) * 21 + (z + 1)) (f1 73 0) (f1 73 1) (f1 73 2) (f1 73 3)) ∧ (n : Int) = mC (x + 1) + mA (y + 1) + (21 - z) + 1)) 1800 (by omega) rfl rfl (fun n j lv st f' g' hn hI O J hO hF hB => ?_) (fun hvs hin O J hO hF => ?_)
  · rcases hI with hI | hI | hI
    · obtain ⟨rfl, cnt, x, f1, g1, rfl, rfl, rfl, rfl, hct, hbu, hab, hmo1, hv, hBI, hm⟩ := hI
      have hwl1 := hwl.1
      have hVr : ∀ x y z, cok (f (fv 12 2) 0) x y z → 0 ≤ (vB (aC f) (f 7) (f (fv 1 15) 0) (lwC f) (f 14) (f 13) ap) x y z := fun x y z h => (vB_r hwl h).1
      have h29 : aC f 29 = false := aC_f.mpr (by omega)
      have hmx := mC_s (x := x) (by omega)
      have hmn := mA_n (x + 1)
      have hcn := mC_n (x + 1)
      refine ⟨fun (hh_1 : x < cnt) => ?_, fun (hh_1 : ¬ x < cnt) => ?_⟩
      · refine hO (k_lay (by omega) (show 0 ≤ 0 ∧ 0 ≤ 46 from by omega) (show ∀ q, 0 ≤ q → q < 0 → 0 ≤ (f1 75 q) ∧ (f1 75 q) ≤ 29 from fun q h0 h1 => by omega) (show 0 ≤ x ∧ x < (f (fv 12 2) 0) from by omega) (show wlB (f 14) (f 13) (f (fv 12 2) 0) from hwl) (show (coB f) from hcb) (show (abOK (mx [55, 56, 57, 58, 73, 75, fv 72 0, fv 74 1] f f1)) from hab) (show (lC f) from hl) (show lwask (f (fv 15 5) 0) (lwC f) from hA) (show 0 ≤ (f (fv 1 15) 0) ∧ (f (fv 1 15) 0) ≤ 9999 from hday) (show mOK (lwC f) g1 from hmo1) (fun f1_2 g1_3 (hh_4 : 0 = 0) (hh_5 : f1_2 (fv 74 1) 0 = (f 14 x)) (hh_6 : ∀ q, 0 ≤ q → q < (f 14 x) → f1_2 75 q = (f 13 (12 * x + q))) (hh_7 : mOK (lwC f) g1_3) => ?_) (fun f1_8 g1_9 (hh_10 : 0 < 0) (hh_11 : f1_8 (fv 74 1) 0 = 0 + 1 + (f 14 x)) (hh_12 : f1_8 75 0 = 29) (hh_13 : ∀ q, 0 ≤ q → q < (f 14 x) → f1_8 75 (0 + 1 + q) = (f 13 (12 * x + q))) (hh_14 : ∀ q, 0 ≤ q → q < 0 → f1_8 75 q = (f1 75 q)) (hh_15 : mOK (lwC f) g1_9) => ?_))
        · have hwx := hwl.2 x (by omega) (by omega)
          have hr1 := row1 (r := f1_2 75) hh_6
          have hO1 : sI (enH (aC f) (f 7) (f (fv 1 15) 0) (lwC f) (f1_2 75) (f1_2 (fv 74 1) 0) (f1 (fv 72 0) 0)) (f1_2 (fv 74 1) 0) - sI (enH (aC f) (f 7) (f (fv 1 15) 0) (lwC f) (f1_2 75) (f1_2 (fv 74 1) 0) (f1 (fv 72 0) 0)) 0 = (vB (aC f) (f 7) (f (fv 1 15) 0) (lwC f) (f 14) (f 13) ap) x (-1) (-1) ∧ f1_2 (fv 74 1) 0 = f 14 x := by
            refine ⟨?_, hh_5⟩
            rw [sI_0, Int.sub_zero, hbu, hh_5]
            show enI _ _ _ _ (f1_2 75) _ ap = enI _ _ _ _ _ _ ap
            rw [hr1.1]
            exact enI_cg hr1.2
          have hP1 : ∀ q, 0 ≤ q → q < f1_2 (fv 74 1) 0 → f1_2 75 q = rw3 (f 14) (f 13) x (-1) (-1) q := by rw [hh_5]; exact hr1.2
          have hmoN := hh_7
          have hck : cok (f (fv 12 2) 0) x (-1) (-1) := ⟨by omega, by omega, Or.inl ⟨rfl, rfl⟩⟩
          have hst2 := byC_step hwl1.2 hBI hVr hck (by have := odc_c hck; omega)
          rw [← hO1.1] at hst2
          refine hO (k_weigh (by omega) (fun (hh_16 : (f1 73 0) < (sI (enH (aC f) (f 7) (f (fv 1 15) 0) (lwC f) (f1_2 75) (f1_2 (fv 74 1) 0) (f1 (fv 72 0) 0)) (f1_2 (fv 74 1) 0) - sI (enH (aC f) (f 7) (f (fv 1 15) 0) (lwC f) (f1_2 75) (f1_2 (fv 74 1) 0) (f1 (fv 72 0) 0)) 0) ∨ ((sI (enH (aC f) (f 7) (f (fv 1 15) 0) (lwC f) (f1_2 75) (f1_2 (fv 74 1) 0) (f1 (fv 72 0) 0)) (f1_2 (fv 74 1) 0) - sI (enH (aC f) (f 7) (f (fv 1 15) 0) (lwC f) (f1_2 75) (f1_2 (fv 74 1) 0) (f1 (fv 72 0) 0)) 0) = (f1 73 0) ∧ (((-1) = (-1) ∧ ¬ (f1 73 2) = (-1)) ∨ ((-1) = (-1) ∧ ¬ (f1 73 3) = (-1))))) => ?_) (fun (hh_17 : ¬ ((f1 73 0) < (sI (enH (aC f) (f 7) (f (fv 1 15) 0) (lwC f) (f1_2 75) (f1_2 (fv 74 1) 0) (f1 (fv 72 0) 0)) (f1_2 (fv 74 1) 0) - sI (enH (aC f) (f 7) (f (fv 1 15) 0) (lwC f) (f1_2 75) (f1_2 (fv 74 1) 0) (f1 (fv 72 0) 0)) 0) ∨ ((sI (enH (aC f) (f 7) (f (fv 1 15) 0) (lwC f) (f1_2 75) (f1_2 (fv 74 1) 0) (f1 (fv 72 0) 0)) (f1_2 (fv 74 1) 0) - sI (enH (aC f) (f 7) (f (fv 1 15) 0) (lwC f) (f1_2 75) (f1_2 (fv 74 1) 0) (f1 (fv 72 0) 0)) 0) = (f1 73 0) ∧ (((-1) = (-1) ∧ ¬ (f1 73 2) = (-1)) ∨ ((-1) = (-1) ∧ ¬ (f1 73 3) = (-1)))))) => ?_))
          · have hB2 := hst2.1 hh_16
            refine Or.inl ⟨show inr (x + 1) from by constructor <;> omega, ?_⟩
            refine hF (mC (x + 1) + mA (x + 1) + 1 : Int).toNat ?_ (Or.inr (Or.inl ⟨rfl, cnt, x, sI (enH (aC f) (f 7) (f (fv 1 15) 0) (lwC f) (f1_2 75) (f1_2 (fv 74 1) 0) (f1 (fv 72 0) 0)) (f1_2 (fv 74 1) 0) - sI (enH (aC f) (f 7) (f (fv 1 15) 0) (lwC f) (f1_2 75) (f1_2 (fv 74 1) 0) (f1 (fv 72 0) 0)) 0, f1_2 (fv 74 1) 0, (x + 1), (wv (wv (wv (wv (mx [75, fv 74 1, 56, 57, 58] f1 f1_2) 73 0 (sI (enH (aC f) (f 7) (f (fv 1 15) 0) (lwC f) (f1_2 75) (f1_2 (fv 74 1) 0) (f1 (fv 72 0) 0)) (f1_2 (fv 74 1) 0) - sI (enH (aC f) (f 7) (f (fv 1 15) 0) (lwC f) (f1_2 75) (f1_2 (fv 74 1) 0) (f1 (fv 72 0) 0)) 0)) 73 1 x) 73 2 (-1)) 73 3 (-1)), g1_3, rfl, rfl, (mx_wv rfl (mx_wv rfl (mx_wv rfl (mx_wv rfl (mx_mx rfl rfl))))), rfl, ?_, ?_, ?_, ?_, ?_, ?_, ?_, ?_, ?_⟩))
            · omega
            · first | exact hct | rfl
            · first | exact hbu | rfl
            · first | exact hab | exact hab0
            · first | exact hmoN | exact hmo1 | exact hmo
            · first | exact ho1 | exact hO1
            · first | exact hP1 | exact hp1
            · omega
            · exact byI_skip hB2 (by omega) (fun a2 b2 c2 h2 h3 => by have := odc_c h2; omega)
            · omega
          · have hB2 := hst2.2 hh_17
            refine Or.inl ⟨show inr (x + 1) from by constructor <;> omega, ?_⟩
            refine hF (mC (x + 1) + mA (x + 1) + 1 : Int).toNat ?_ (Or.inr (Or.inl ⟨rfl, cnt, x, sI (enH (aC f) (f 7) (f (fv 1 15) 0) (lwC f) (f1_2 75) (f1_2 (fv 74 1) 0) (f1 (fv 72 0) 0)) (f1_2 (fv 74 1) 0) - sI (enH (aC f) (f 7) (f (fv 1 15) 0) (lwC f) (f1_2 75) (f1_2 (fv 74 1) 0) (f1 (fv 72 0) 0)) 0, f1_2 (fv 74 1) 0, (x + 1), (mx [75, fv 74 1, 56, 57, 58] f1 f1_2), g1_3, rfl, rfl, (mx_mx rfl rfl), rfl, ?_, ?_, ?_, ?_, ?_, ?_, ?_, ?_, ?_⟩))
            · omega
            · first | exact hct | rfl
            · first | exact hbu | rfl
            · first | exact hab | exact hab0
            · first | exact hmoN | exact hmo1 | exact hmo
            · first | exact ho1 | exact hO1
            · first | exact hP1 | exact hp1
            · omega
            · exact byI_skip hB2 (by omega) (fun a2 b2 c2 h2 h3 => by have := odc_c h2; omega)
            · omega
        · omega
      · exact k0 f1 g1 hbu (fun hne => by have := byI_end hBI (by omega) (fun a2 b2 c2 h2 => by have := odc_c h2; omega); exact this) hmo1
    · obtain ⟨rfl, cnt, x, one, e1, y, f1, g1, rfl, rfl, rfl, rfl, hct, hbu, hab, hmo1, ho1, hp1, hv, hBI, hm⟩ := hI
      have hwl1 := hwl.1
      have hVr : ∀ x y z, cok (f (fv 12 2) 0) x y z → 0 ≤ (vB (aC f) (f 7) (f (fv 1 15) 0) (lwC f) (f 14) (f 13) ap) x y z := fun x y z h => (vB_r hwl h).1
      have h29 : aC f 29 = false := aC_f.mpr (by omega)
      have hmy := mA_s (x := y) (by omega)
      have hmn := mA_n y
      have hcn := mC_n (x + 1)
      have hmn2 := mA_n (y + 1)
      have hwx := hwl.2 x (by omega) (by omega)
      have hvr1 := vB_r (ab := aC f) (ow := f 7) (day := f (fv 1 15) 0) (w := lwC f) (a := ap) hwl (show cok (f (fv 12 2) 0) x (-1) (-1) from ⟨by omega, by omega, Or.inl ⟨rfl, rfl⟩⟩)
      refine ⟨fun (hh_18 : y < cnt) => ?_, fun (hh_18 : ¬ y < cnt) => ?_⟩
      · refine hO (k_lay (by omega) (show 0 ≤ e1 ∧ e1 ≤ 46 from by omega) (show ∀ q, 0 ≤ q → q < e1 → 0 ≤ (f1 75 q) ∧ (f1 75 q) ≤ 29 from fun q h0 h1 => by rw [hp1 q h0 h1]; have hck0 : cok (f (fv 12 2) 0) x (-1) (-1) := ⟨by omega, by omega, Or.inl ⟨rfl, rfl⟩⟩; exact rw3_r hwl hck0 h0 (by unfold ln3; rw [if_pos rfl]; omega)) (show 0 ≤ y ∧ y < (f (fv 12 2) 0) from by omega) (show wlB (f 14) (f 13) (f (fv 12 2) 0) from hwl) (show (coB f) from hcb) (show (abOK (mx [55, 56, 57, 58, 73, 75, fv 72 0, fv 74 1] f f1)) from hab) (show (lC f) from hl) (show lwask (f (fv 15 5) 0) (lwC f) from hA) (show 0 ≤ (f (fv 1 15) 0) ∧ (f (fv 1 15) 0) ≤ 9999 from hday) (show mOK (lwC f) g1 from hmo1) (fun f1_19 g1_20 (hh_21 : e1 = 0) (hh_22 : f1_19 (fv 74 1) 0 = (f 14 y)) (hh_23 : ∀ q, 0 ≤ q → q < (f 14 y) → f1_19 75 q = (f 13 (12 * y + q))) (hh_24 : mOK (lwC f) g1_20) => ?_) (fun f1_25 g1_26 (hh_27 : 0 < e1) (hh_28 : f1_25 (fv 74 1) 0 = e1 + 1 + (f 14 y)) (hh_29 : f1_25 75 e1 = 29) (hh_30 : ∀ q, 0 ≤ q → q < (f 14 y) → f1_25 75 (e1 + 1 + q) = (f 13 (12 * y + q))) (hh_31 : ∀ q, 0 ≤ q → q < e1 → f1_25 75 q = (f1 75 q)) (hh_32 : mOK (lwC f) g1_26) => ?_))
        · omega
        · have hwy := hwl.2 y (by omega) (by omega)
          have hL1 := (row1 (L := f 14) (W := f 13) (r := fun q => f 13 (12 * x + q)) (x := x) (fun _ _ _ => rfl)).1
          have hq1 := hh_28
          have hq2 := hh_29
          have hq3 := hh_30
          have hq4 := hh_31
          rw [ho1.2] at hq1 hq2 hq3 hq4
          have hmoN := hh_32
          have hr0 : ∀ q, 0 ≤ q → q < f 14 x → f1 75 q = f 13 (12 * x + q) := fun q h0 h1 => by rw [hp1 q h0 (by omega)]; unfold rw3; rw [if_pos h1]
          have hr2 := row2 (r := f1_25 75) (r' := f1 75) (show ¬ y = -1 by omega) hr0 hq2 hq3 hq4
          have hpf := pf_en (ab := aC f) (ow := f 7) (day := f (fv 1 15) 0) (w := lwC f) (a := ap) (r := f1_25 75) (r1 := rw3 (f 14) (f 13) x (-1) (-1)) (n := f1_25 (fv 74 1) 0) (n1 := f 14 x) (by omega) (fun q h0 h1 => by rw [hq4 q h0 h1]; exact hp1 q h0 (by omega)) hq2 (by omega) h29
          have hO2 : one + (sI (enH (aC f) (f 7) (f (fv 1 15) 0) (lwC f) (f1_25 75) (f1_25 (fv 74 1) 0) (f1 (fv 72 0) 0)) (f1_25 (fv 74 1) 0) - sI (enH (aC f) (f 7) (f (fv 1 15) 0) (lwC f) (f1_25 75) (f1_25 (fv 74 1) 0) (f1 (fv 72 0) 0)) (e1 + 1)) = (vB (aC f) (f 7) (f (fv 1 15) 0) (lwC f) (f 14) (f 13) ap) x y (-1) ∧ f1_25 (fv 74 1) 0 = f 14 x + 1 + f 14 y := by
            refine ⟨?_, hq1⟩
            rw [hbu, ho1.2, hpf, ho1.1]
            unfold vB
            rw [hL1, hr2.1, ← enI_cg hr2.2, ← hq1, enI_eq (row := f1_25 75)]
            omega
          have hP2 : ∀ q, 0 ≤ q → q < f1_25 (fv 74 1) 0 → f1_25 75 q = rw3 (f 14) (f 13) x y (-1) q := by rw [hq1]; exact hr2.2
          have hP1 : ∀ q, 0 ≤ q → q < e1 → f1_25 75 q = rw3 (f 14) (f 13) x (-1) (-1) q := fun q h0 h1 => by rw [hq4 q h0 (by omega)]; exact hp1 q h0 h1
          have hck : cok (f (fv 12 2) 0) x y (-1) := ⟨by omega, by omega, Or.inr ⟨by omega, by omega, Or.inl rfl⟩⟩
          have hvr2 := vB_r (ab := aC f) (ow := f 7) (day := f (fv 1 15) 0) (w := lwC f) (a := ap) hwl hck
          have hst2 := byC_step hwl1.2 hBI hVr hck (by have := odc_c hck; omega)
          rw [← hO2.1] at hst2
          refine Or.inl ⟨show inr (one + (sI (enH (aC f) (f 7) (f (fv 1 15) 0) (lwC f) (f1_25 75) (f1_25 (fv 74 1) 0) (f1 (fv 72 0) 0)) (f1_25 (fv 74 1) 0) - sI (enH (aC f) (f 7) (f (fv 1 15) 0) (lwC f) (f1_25 75) (f1_25 (fv 74 1) 0) (f1 (fv 72 0) 0)) (e1 + 1))) from by constructor <;> omega, ?_⟩
          refine hO (k_weigh (by omega) (fun (hh_33 : (f1 73 0) < (one + (sI (enH (aC f) (f 7) (f (fv 1 15) 0) (lwC f) (f1_25 75) (f1_25 (fv 74 1) 0) (f1 (fv 72 0) 0)) (f1_25 (fv 74 1) 0) - sI (enH (aC f) (f 7) (f (fv 1 15) 0) (lwC f) (f1_25 75) (f1_25 (fv 74 1) 0) (f1 (fv 72 0) 0)) (e1 + 1))) ∨ ((one + (sI (enH (aC f) (f 7) (f (fv 1 15) 0) (lwC f) (f1_25 75) (f1_25 (fv 74 1) 0) (f1 (fv 72 0) 0)) (f1_25 (fv 74 1) 0) - sI (enH (aC f) (f 7) (f (fv 1 15) 0) (lwC f) (f1_25 75) (f1_25 (fv 74 1) 0) (f1 (fv 72 0) 0)) (e1 + 1))) = (f1 73 0) ∧ ((y = (-1) ∧ ¬ (f1 73 2) = (-1)) ∨ ((-1) = (-1) ∧ ¬ (f1 73 3) = (-1))))) => ?_) (fun (hh_34 : ¬ ((f1 73 0) < (one + (sI (enH (aC f) (f 7) (f (fv 1 15) 0) (lwC f) (f1_25 75) (f1_25 (fv 74 1) 0) (f1 (fv 72 0) 0)) (f1_25 (fv 74 1) 0) - sI (enH (aC f) (f 7) (f (fv 1 15) 0) (lwC f) (f1_25 75) (f1_25 (fv 74 1) 0) (f1 (fv 72 0) 0)) (e1 + 1))) ∨ ((one + (sI (enH (aC f) (f 7) (f (fv 1 15) 0) (lwC f) (f1_25 75) (f1_25 (fv 74 1) 0) (f1 (fv 72 0) 0)) (f1_25 (fv 74 1) 0) - sI (enH (aC f) (f 7) (f (fv 1 15) 0) (lwC f) (f1_25 75) (f1_25 (fv 74 1) 0) (f1 (fv 72 0) 0)) (e1 + 1))) = (f1 73 0) ∧ ((y = (-1) ∧ ¬ (f1 73 2) = (-1)) ∨ ((-1) = (-1) ∧ ¬ (f1 73 3) = (-1)))))) => ?_))
          · have hB2 := hst2.1 hh_33
            refine Or.inl ⟨show inr (y + 1) from by constructor <;> omega, ?_⟩
            refine hF (mC (x + 1) + mA (y + 1) + (21 - (y + 1)) + 1 : Int).toNat ?_ (Or.inr (Or.inr (⟨rfl, cnt, x, one, e1, y, (one + (sI (enH (aC f) (f 7) (f (fv 1 15) 0) (lwC f) (f1_25 75) (f1_25 (fv 74 1) 0) (f1 (fv 72 0) 0)) (f1_25 (fv 74 1) 0) - sI (enH (aC f) (f 7) (f (fv 1 15) 0) (lwC f) (f1_25 75) (f1_25 (fv 74 1) 0) (f1 (fv 72 0) 0)) (e1 + 1))), f1_25 (fv 74 1) 0, (y + 1), (wv (wv (wv (wv (mx [75, fv 74 1, 56, 57, 58] f1 f1_25) 73 0 (one + (sI (enH (aC f) (f 7) (f (fv 1 15) 0) (lwC f) (f1_25 75) (f1_25 (fv 74 1) 0) (f1 (fv 72 0) 0)) (f1_25 (fv 74 1) 0) - sI (enH (aC f) (f 7) (f (fv 1 15) 0) (lwC f) (f1_25 75) (f1_25 (fv 74 1) 0) (f1 (fv 72 0) 0)) (e1 + 1)))) 73 1 x) 73 2 y) 73 3 (-1)), g1_26, rfl, rfl, (mx_wv rfl (mx_wv rfl (mx_wv rfl (mx_wv rfl (mx_mx rfl rfl))))), rfl, ?_, ?_, ?_, ?_, ?_, ?_, ?_, ?_, ?_, ?_, ?_⟩)))
            · omega
            · first | exact hct | rfl
            · first | exact hbu | rfl
            · first | exact hab | exact hab0
            · first | exact hmoN | exact hmo1 | exact hmo
            · first | exact ho1 | exact hO1
            · first | exact hP1 | exact hp1
            · first | exact ho2 | exact hO2
            · first | exact hP2 | exact hp2
            · omega
            · exact byI_skip hB2 (by omega) (fun a2 b2 c2 h2 h3 => by have := odc_c h2; omega)
            · omega
          · have hB2 := hst2.2 hh_34
            refine Or.inl ⟨show inr (y + 1) from by constructor <;> omega, ?_⟩
            refine hF (mC (x + 1) + mA (y + 1) + (21 - (y + 1)) + 1 : Int).toNat ?_ (Or.inr (Or.inr (⟨rfl, cnt, x, one, e1, y, (one + (sI (enH (aC f) (f 7) (f (fv 1 15) 0) (lwC f) (f1_25 75) (f1_25 (fv 74 1) 0) (f1 (fv 72 0) 0)) (f1_25 (fv 74 1) 0) - sI (enH (aC f) (f 7) (f (fv 1 15) 0) (lwC f) (f1_25 75) (f1_25 (fv 74 1) 0) (f1 (fv 72 0) 0)) (e1 + 1))), f1_25 (fv 74 1) 0, (y + 1), (mx [75, fv 74 1, 56, 57, 58] f1 f1_25), g1_26, rfl, rfl, (mx_mx rfl rfl), rfl, ?_, ?_, ?_, ?_, ?_, ?_, ?_, ?_, ?_, ?_, ?_⟩)))
            · omega
            · first | exact hct | rfl
            · first | exact hbu | rfl
            · first | exact hab | exact hab0
            · first | exact hmoN | exact hmo1 | exact hmo
            · first | exact ho1 | exact hO1
            · first | exact hP1 | exact hp1
            · first | exact ho2 | exact hO2
            · first | exact hP2 | exact hp2
            · omega
            · exact byI_skip hB2 (by omega) (fun a2 b2 c2 h2 h3 => by have := odc_c h2; omega)
            · omega
      · refine ⟨show inr (x + 1) from by constructor <;> omega, ?_⟩
        refine hB (mC (x + 1) : Int).toNat ?_ (Or.inl ⟨rfl, cnt, (x + 1), f1, g1, rfl, rfl, rfl, rfl, ?_, ?_, ?_, ?_, ?_, ?_, ?_⟩)
        · omega
        · first | exact hct | rfl
        · first | exact hbu | rfl
        · first | exact hab | exact hab0
        · first | exact hmoN | exact hmo1 | exact hmo
        · omega
        · exact byI_skip hBI (by omega) (fun a2 b2 c2 h2 h3 => by have := odc_c h2; omega)
        · omega
    · obtain ⟨rfl, cnt, x, one, e1, y, two, e2, z, f1, g1, rfl, rfl, rfl, rfl, hct, hbu, hab, hmo1, ho1, hp1, ho2, hp2, hv, hBI, hm⟩ := hI
      have hwl1 := hwl.1
      have hVr : ∀ x y z, cok (f (fv 12 2) 0) x y z → 0 ≤ (vB (aC f) (f 7) (f (fv 1 15) 0) (lwC f) (f 14) (f 13) ap) x y z := fun x y z h => (vB_r hwl h).1
      have h29 : aC f 29 = false := aC_f.mpr (by omega)
      have hcn := mC_n (x + 1)
      have hmn2 := mA_n (y + 1)
      have hwx := hwl.2 x (by omega) (by omega)
      have hwy := hwl.2 y (by omega) (by omega)
      have hvr2 := vB_r (ab := aC f) (ow := f 7) (day := f (fv 1 15) 0) (w := lwC f) (a := ap) hwl (show cok (f (fv 12 2) 0) x y (-1) from ⟨by omega, by omega, Or.inr ⟨by omega, by omega, Or.inl rfl⟩⟩)
      refine ⟨fun (hh_35 : z < cnt) => ?_, fun (hh_35 : ¬ z < cnt) => ?_⟩
      · refine hO (k_lay (by omega) (show 0 ≤ e2 ∧ e2 ≤ 46 from by omega) (show ∀ q, 0 ≤ q → q < e2 → 0 ≤ (f1 75 q) ∧ (f1 75 q) ≤ 29 from fun q h0 h1 => by rw [hp2 q h0 h1]; have hck0 : cok (f (fv 12 2) 0) x y (-1) := ⟨by omega, by omega, Or.inr ⟨by omega, by omega, Or.inl rfl⟩⟩; exact rw3_r hwl hck0 h0 (by unfold ln3; rw [if_neg (by omega), if_pos rfl]; omega)) (show 0 ≤ z ∧ z < (f (fv 12 2) 0) from by omega) (show wlB (f 14) (f 13) (f (fv 12 2) 0) from hwl) (show (coB f) from hcb) (show (abOK (mx [55, 56, 57, 58, 73, 75, fv 72 0, fv 74 1] f f1)) from hab) (show (lC f) from hl) (show lwask (f (fv 15 5) 0) (lwC f) from hA) (show 0 ≤ (f (fv 1 15) 0) ∧ (f (fv 1 15) 0) ≤ 9999 from hday) (show mOK (lwC f) g1 from hmo1) (fun f1_36 g1_37 (hh_38 : e2 = 0) (hh_39 : f1_36 (fv 74 1) 0 = (f 14 z)) (hh_40 : ∀ q, 0 ≤ q → q < (f 14 z) → f1_36 75 q = (f 13 (12 * z + q))) (hh_41 : mOK (lwC f) g1_37) => ?_) (fun f1_42 g1_43 (hh_44 : 0 < e2) (hh_45 : f1_42 (fv 74 1) 0 = e2 + 1 + (f 14 z)) (hh_46 : f1_42 75 e2 = 29) (hh_47 : ∀ q, 0 ≤ q → q < (f 14 z) → f1_42 75 (e2 + 1 + q) = (f 13 (12 * z + q))) (hh_48 : ∀ q, 0 ≤ q → q < e2 → f1_42 75 q = (f1 75 q)) (hh_49 : mOK (lwC f) g1_43) => ?_))
        · omega
        · have hwz := hwl.2 z (by omega) (by omega)
          have hq1 := hh_45
          have hq2 := hh_46
          have hq3 := hh_47
          have hq4 := hh_48
          rw [ho2.2] at hq1 hq2 hq3 hq4
          have hmoN := hh_49
          have hL2 := (row2 (L := f 14) (W := f 13) (r := rw3 (f 14) (f 13) x y (-1)) (r' := rw3 (f 14) (f 13) x y (-1)) (x := x) (y := y) (by omega) (fun q h0 h1 => by unfold rw3; rw [if_pos h1]) (by unfold rw3; rw [if_neg (by omega), if_pos rfl]) (fun q h0 h1 => by unfold rw3; rw [if_neg (by omega), if_neg (by omega), if_pos (by omega), show f 14 x + 1 + q - (f 14 x + 1) = q by omega]) (fun _ _ _ => rfl)).1
          have hr3 := row3 (r := f1_42 75) (r2 := f1 75) (r' := f1 75) (show ¬ y = -1 by omega) (show ¬ z = -1 by omega) (fun q h0 h1 => by rw [hp2 q h0 (by omega)]; unfold rw3; rw [if_pos h1]) (by rw [hp2 _ (by omega) (by omega)]; unfold rw3; rw [if_neg (by omega), if_pos rfl]) (fun q h0 h1 => by rw [hp2 _ (by omega) (by omega)]; unfold rw3; rw [if_neg (by omega), if_neg (by omega), if_pos (by omega), show f 14 x + 1 + q - (f 14 x + 1) = q by omega]) (fun _ _ _ => rfl) (by omega) hq2 hq3 hq4
          have hpf := pf_en (ab := aC f) (ow := f 7) (day := f (fv 1 15) 0) (w := lwC f) (a := ap) (r := f1_42 75) (r1 := rw3 (f 14) (f 13) x y (-1)) (n := f1_42 (fv 74 1) 0) (n1 := f 14 x + 1 + f 14 y) (by omega) (fun q h0 h1 => by rw [hq4 q h0 h1]; exact hp2 q h0 (by omega)) hq2 (by omega) h29
          have hO3 : two + (sI (enH (aC f) (f 7) (f (fv 1 15) 0) (lwC f) (f1_42 75) (f1_42 (fv 74 1) 0) (f1 (fv 72 0) 0)) (f1_42 (fv 74 1) 0) - sI (enH (aC f) (f 7) (f (fv 1 15) 0) (lwC f) (f1_42 75) (f1_42 (fv 74 1) 0) (f1 (fv 72 0) 0)) (e2 + 1)) = (vB (aC f) (f 7) (f (fv 1 15) 0) (lwC f) (f 14) (f 13) ap) x y z := by
            rw [hbu, ho2.2, hpf, ho2.1]
            unfold vB
            rw [hL2, hr3.1, ← enI_cg hr3.2, ← hq1, enI_eq (row := f1_42 75)]
            omega
          have hP1 : ∀ q, 0 ≤ q → q < e1 → f1_42 75 q = rw3 (f 14) (f 13) x (-1) (-1) q := fun q h0 h1 => by rw [hq4 q h0 (by omega)]; exact hp1 q h0 h1
          have hP2 : ∀ q, 0 ≤ q → q < e2 → f1_42 75 q = rw3 (f 14) (f 13) x y (-1) q := fun q h0 h1 => by rw [hq4 q h0 (by omega)]; exact hp2 q h0 h1
          have hck : cok (f (fv 12 2) 0) x y z := ⟨by omega, by omega, Or.inr ⟨by omega, by omega, Or.inr ⟨by omega, by omega⟩⟩⟩
          have hvr3 := vB_r (ab := aC f) (ow := f 7) (day := f (fv 1 15) 0) (w := lwC f) (a := ap) hwl hck
          have hst2 := byC_step hwl1.2 hBI hVr hck (by have := odc_c hck; omega)
          rw [← hO3] at hst2
          refine Or.inl ⟨show inr (two + (sI (enH (aC f) (f 7) (f (fv 1 15) 0) (lwC f) (f1_42 75) (f1_42 (fv 74 1) 0) (f1 (fv 72 0) 0)) (f1_42 (fv 74 1) 0) - sI (enH (aC f) (f 7) (f (fv 1 15) 0) (lwC f) (f1_42 75) (f1_42 (fv 74 1) 0) (f1 (fv 72 0) 0)) (e2 + 1))) from by constructor <;> omega, ?_⟩
          refine hO (k_weigh (by omega) (fun (hh_50 : (f1 73 0) < (two + (sI (enH (aC f) (f 7) (f (fv 1 15) 0) (lwC f) (f1_42 75) (f1_42 (fv 74 1) 0) (f1 (fv 72 0) 0)) (f1_42 (fv 74 1) 0) - sI (enH (aC f) (f 7) (f (fv 1 15) 0) (lwC f) (f1_42 75) (f1_42 (fv 74 1) 0) (f1 (fv 72 0) 0)) (e2 + 1))) ∨ ((two + (sI (enH (aC f) (f 7) (f (fv 1 15) 0) (lwC f) (f1_42 75) (f1_42 (fv 74 1) 0) (f1 (fv 72 0) 0)) (f1_42 (fv 74 1) 0) - sI (enH (aC f) (f 7) (f (fv 1 15) 0) (lwC f) (f1_42 75) (f1_42 (fv 74 1) 0) (f1 (fv 72 0) 0)) (e2 + 1))) = (f1 73 0) ∧ ((y = (-1) ∧ ¬ (f1 73 2) = (-1)) ∨ (z = (-1) ∧ ¬ (f1 73 3) = (-1))))) => ?_) (fun (hh_51 : ¬ ((f1 73 0) < (two + (sI (enH (aC f) (f 7) (f (fv 1 15) 0) (lwC f) (f1_42 75) (f1_42 (fv 74 1) 0) (f1 (fv 72 0) 0)) (f1_42 (fv 74 1) 0) - sI (enH (aC f) (f 7) (f (fv 1 15) 0) (lwC f) (f1_42 75) (f1_42 (fv 74 1) 0) (f1 (fv 72 0) 0)) (e2 + 1))) ∨ ((two + (sI (enH (aC f) (f 7) (f (fv 1 15) 0) (lwC f) (f1_42 75) (f1_42 (fv 74 1) 0) (f1 (fv 72 0) 0)) (f1_42 (fv 74 1) 0) - sI (enH (aC f) (f 7) (f (fv 1 15) 0) (lwC f) (f1_42 75) (f1_42 (fv 74 1) 0) (f1 (fv 72 0) 0)) (e2 + 1))) = (f1 73 0) ∧ ((y = (-1) ∧ ¬ (f1 73 2) = (-1)) ∨ (z = (-1) ∧ ¬ (f1 73 3) = (-1)))))) => ?_))
          · have hB2 := hst2.1 hh_50
            refine ⟨show inr (z + 1) from by constructor <;> omega, ?_⟩
            refine hB (mC (x + 1) + mA (y + 1) + (21 - (z + 1)) + 1 : Int).toNat ?_ (Or.inr (Or.inr (⟨rfl, cnt, x, one, e1, y, two, e2, (z + 1), (wv (wv (wv (wv (mx [75, fv 74 1, 56, 57, 58] f1 f1_42) 73 0 (two + (sI (enH (aC f) (f 7) (f (fv 1 15) 0) (lwC f) (f1_42 75) (f1_42 (fv 74 1) 0) (f1 (fv 72 0) 0)) (f1_42 (fv 74 1) 0) - sI (enH (aC f) (f 7) (f (fv 1 15) 0) (lwC f) (f1_42 75) (f1_42 (fv 74 1) 0) (f1 (fv 72 0) 0)) (e2 + 1)))) 73 1 x) 73 2 y) 73 3 z), g1_43, rfl, rfl, (mx_wv rfl (mx_wv rfl (mx_wv rfl (mx_wv rfl (mx_mx rfl rfl))))), rfl, ?_, ?_, ?_, ?_, ?_, ?_, ?_, ?_, ?_, ?_, ?_⟩)))
            · omega
            · first | exact hct | rfl
            · first | exact hbu | rfl
            · first | exact hab | exact hab0
            · first | exact hmoN | exact hmo1 | exact hmo
            · first | exact ho1 | exact hO1
            · first | exact hP1 | exact hp1
            · first | exact ho2 | exact hO2
            · first | exact hP2 | exact hp2
            · omega
            · exact byI_skip hB2 (by omega) (fun a2 b2 c2 h2 h3 => by have := odc_c h2; omega)
            · omega
          · have hB2 := hst2.2 hh_51
            refine ⟨show inr (z + 1) from by constructor <;> omega, ?_⟩
            refine hB (mC (x + 1) + mA (y + 1) + (21 - (z + 1)) + 1 : Int).toNat ?_ (Or.inr (Or.inr (⟨rfl, cnt, x, one, e1, y, two, e2, (z + 1), (mx [75, fv 74 1, 56, 57, 58] f1 f1_42), g1_43, rfl, rfl, (mx_mx rfl rfl), rfl, ?_, ?_, ?_, ?_, ?_, ?_, ?_, ?_, ?_, ?_, ?_⟩)))
            · omega
            · first | exact hct | rfl
            · first | exact hbu | rfl
            · first | exact hab | exact hab0
            · first | exact hmoN | exact hmo1 | exact hmo
            · first | exact ho1 | exact hO1
            · first | exact hP1 | exact hp1
            · first | exact ho2 | exact hO2
            · first | exact hP2 | exact hp2
            · omega
            · exact byI_skip hB2 (by omega) (fun a2 b2 c2 h2 h3 => by have := odc_c h2; omega)
            · omega
      · refine ⟨show inr (y + 1) from by constructor <;> omega, ?_⟩
        refine hB (mC (x + 1) + mA (y + 1) + 1 : Int).toNat ?_ (Or.inr (Or.inl ⟨rfl, cnt, x, one, e1, (y + 1), f1, g1, rfl, rfl, rfl, rfl, ?_, ?_, ?_, ?_, ?_, ?_, ?_, ?_, ?_⟩))
        · omega
        · first | exact hct | rfl
        · first | exact hbu | rfl
        · first | exact hab | exact hab0
        · first | exact hmoN | exact hmo1 | exact hmo
        · first | exact ho1 | exact hO1
        · first | exact hP1 | exact hp1
        · omega
        · exact byI_skip hBI (by omega) (fun a2 b2 c2 h2 h3 => by have := odc_c h2; omega)
        · omega
  · have hwl1 := hwl.1
    have hVr : ∀ x y z, cok (f (fv 12 2) 0) x y z → 0 ≤ (vB (aC f) (f 7) (f (fv 1 15) 0) (lwC f) (f 14) (f 13) ap) x y z := fun x y z h => (vB_r hwl h).1
    have h29 : aC f 29 = false := aC_f.mpr (by omega)
    have hmc0 := mC_0
    refine hO (k_fill_73 (by omega) (fun f1_52 (hh_53 : ∀ k, 0 ≤ k → k < 4 → f1_52 73 k = (-1)) => ?_))
    have hz0 := hh_53
    refine hO (k_lookOver (by omega) (show (coB f) from hcb) (fun f1_54 (hh_55 : ∀ s, 0 ≤ s → s < 29 → f1_54 55 s = b1 ((aC f) s)) => ?_))
    have hab0 := hh_55
    refine hF (mC 0 : Int).toNat ?_ (Or.inl ⟨rfl, f (fv 12 2) 0, 0, (mx [55] (mx [73] (wv f (fv 72 0) 0 ap) f1_52) f1_54), g, rfl, rfl, (mx_mx rfl (mx_mx rfl (mx_wv rfl mx_rf))), rfl, ?_, ?_, ?_, ?_, ?_, ?_, ?_⟩)
    · omega
    · first | exact hct | rfl
    · first | exact hbu | rfl
    · first | exact hab | exact hab0
    · first | exact hmoN | exact hmo1 | exact hmo
    · omega
    · exact Or.inl ⟨hz0 0 (by decide) (by decide), fun a2 b2 c2 h2 => by have := odc_c h2; omega⟩
    · omega
set_option maxRecDepth 100000 in
set_option maxHeartbeats 4000000 in
theorem k_buy {ap w : Int} (hd : 7 ≤ d) (hc : 0 ≤ (f (fv 1 0) 0) ∧ (f (fv 1 0) 0) ≤ 8) (hwl : wlB (f 14) (f 13) (f (fv 12 2) 0)) (hcb : (coB f)) (hl : (lC f)) (hA : lwask (f (fv 15 5) 0) (lwC f)) (hday : 0 ≤ (f (fv 1 15) 0) ∧ (f (fv 1 15) 0) ≤ 9999) (hmo : mOK (lwC f) g) (k0 : (¬ (0 ≤ ap ∧ ap < (f (fv 1 0) 0) ∧ ¬ (f (fv 12 2) 0) = 0 ∧ 0 ≤ w ∧ w ≤ 3)) → Q (some (iI (-1))) f g) (k1 : (0 ≤ ap ∧ ap < (f (fv 1 0) 0) ∧ ¬ (f (fv 12 2) 0) = 0 ∧ 0 ≤ w ∧ w ≤ 3) → ((f (fv 72 0) 0) = ap) → Q (some (iI (f 73 w))) f g) (k2 : ∀ f1 : iF, ∀ g1 : iG, (0 ≤ ap ∧ ap < (f (fv 1 0) 0) ∧ ¬ (f (fv 12 2) 0) = 0 ∧ 0 ≤ w ∧ w ≤ 3) → (f1 (fv 72 0) 0 = ap) → (BuyP (vB (aC f) (f 7) (f (fv 1 15) 0) (lwC f) (f 14) (f 13) ap) (f (fv 12 2) 0) (fun w => f1 73 w)) → (mOK (lwC f) g1) → Q (some (iI (f1 73 w))) (mx [55, 56, 57, 58, 73, 75, fv 72 0, fv 74 1] f f1) g1) : wq d 205 [iR 0, iI ap, iI w] f g Q := by
  obtain ⟨d, rfl⟩ : ∃ e, d = e + 1 := ⟨d - 1, by omega⟩
  refine i_meth0 rfl rfl (fun O J hO => ?_)
  refine hO (k_has (by omega) (fun (hh_1 : 0 ≤ ap) (hh_2 : ap < (f (fv 1 0) 0)) (hh_3 : ap < 8) => ?_) (fun (hh_4 : ¬ (0 ≤ ap ∧ ap < (f (fv 1 0) 0) ∧ ap < 8)) => ?_))
  · refine ⟨fun h => absurd (show (1 : Int) = 0 from h) (by decide), fun _ => ?_⟩
    refine ⟨fun (hh_5 : f (fv 12 2) 0 = 0) => ?_, fun (hh_5 : ¬ f (fv 12 2) 0 = 0) => ?_⟩
    · exact k0 (by omega)
    · refine ⟨fun (hh_6 : w < 0) => ?_, fun (hh_6 : ¬ w < 0) => ?_⟩
      · exact k0 (by omega)
      · refine ⟨fun (hh_7 : 3 < w) => ?_, fun (hh_7 : ¬ 3 < w) => ?_⟩
        · exact k0 (by omega)
        · refine ⟨fun (hh_8 : f (fv 72 0) 0 = ap) => ?_, fun (hh_8 : ¬ f (fv 72 0) 0 = ap) => ?_⟩
          · refine ⟨show 0 ≤ (w : Int) ∧ w < 4 from by omega, ?_⟩
            exact k1 (by omega) (by omega)
          · refine hO (k_kseek (by omega) (show 0 ≤ ap ∧ ap < 8 from by omega) (show wlB (f 14) (f 13) (f (fv 12 2) 0) from hwl) (show (coB f) from hcb) (show (lC f) from hl) (show lwask (f (fv 15 5) 0) (lwC f) from hA) (show 0 ≤ (f (fv 1 15) 0) ∧ (f (fv 1 15) 0) ≤ 9999 from hday) (show mOK (lwC f) g from hmo) (fun f1_9 g1_10 (hh_11 : f1_9 (fv 72 0) 0 = ap) (hh_12 : ¬ (f (fv 12 2) 0) = 0 → BuyP (vB (aC f) (f 7) (f (fv 1 15) 0) (lwC f) (f 14) (f 13) ap) (f (fv 12 2) 0) (fun w => f1_9 73 w)) (hh_13 : mOK (lwC f) g1_10) => ?_))
            have hq1 := hh_11
            have hq2 := hh_12 (by omega)
            have hq3 := hh_13
            refine ⟨show 0 ≤ (w : Int) ∧ w < 4 from by omega, ?_⟩
            exact k2 f1_9 g1_10 (by omega) (by exact hq1) (by exact hq2) (by exact hq3)
  · refine ⟨fun _ => ?_, fun h => absurd (show (0 : Int) = 0 from by decide) h⟩
    exact k0 (by omega)
end C30
