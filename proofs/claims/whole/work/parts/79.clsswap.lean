section C29
variable {d : Nat} {f : iF} {g : iG} {Q : Option iv → iF → iG → Prop}
/-! ===== the class: swap ===== -/
theorem abOK_up {f F : iF} {a b x y : Int} (hf : abOK f) (h8 : F 8 = f 8) (h4 : F 4 = f 4) (h7 : F 7 = up (up (f 7) a x) b y) (h55 : F 55 = up (up (f 55) a (b1 (aC F a))) b (b1 (aC F b))) : abOK F := by
  intro s h0 h1
  rw [h55]
  by_cases e : s = b
  · rw [e, up_s]
  · rw [up_n e]
    by_cases e2 : s = a
    · rw [e2, up_s]
    · rw [up_n e2, hf s h0 h1]
      have : aC F s = aC f s := by
        unfold aC abl
        rw [h8, h4, h7, up_n e, up_n e2]
      rw [this]
theorem coB_up {f F : iF} {a b x y : Int} (hf : coB f) (h0 : F (fv 1 0) 0 = f (fv 1 0) 0) (h7 : F 7 = up (up (f 7) a x) b y) (hx : -1 ≤ x ∧ x < f (fv 1 0) 0) (hy : -1 ≤ y ∧ y < f (fv 1 0) 0) : coB F := by
  refine ⟨by rw [h0]; exact hf.1, fun s s0 s1 => ?_⟩
  rw [h0, h7]
  unfold up
  split
  · exact hy
  · split
    · exact hx
    · exact hf.2 s s0 s1
set_option maxRecDepth 100000 in
set_option maxHeartbeats 4000000 in
theorem k_holds {v : Int} (hd : 2 ≤ d) (hn : 0 ≤ (f (fv 10 1) 0) ∧ (f (fv 10 1) 0) ≤ 60) (k0 : (∃ q, 0 ≤ q ∧ q < (f (fv 10 1) 0) ∧ (f 11 q) = v) → Q (some (iI 1)) f g) (k1 : (∀ q, 0 ≤ q → q < (f (fv 10 1) 0) → ¬ (f 11 q) = v) → Q (some (iI 0)) f g) : wq d 175 [iR 10, iI v] f g Q := by
  obtain ⟨d, rfl⟩ : ∃ e, d = e + 1 := ⟨d - 1, by omega⟩
  refine i_meth [(2, 3)] (fun n j lv st f' g' => (j = 2 ∧ ∃ (i : Int), lv = [some (iR 10), some (iI v), some (iI i)] ∧ st = [] ∧ f = f' ∧ g = g' ∧ (0 ≤ i ∧ i ≤ f (fv 10 1) 0) ∧ (∀ q, 0 ≤ q → q < i → ¬ f 11 q = v) ∧ (n : Int) = f (fv 10 1) 0 - i)) 60 (by omega) rfl rfl (fun n j lv st f' g' hn hI O J hO hF hB => ?_) (fun hvs hin O J hO hF => ?_)
  · obtain ⟨rfl, i, rfl, rfl, rfl, rfl, hi, hz, hm⟩ := hI
    refine ⟨fun (hh_1 : i < f (fv 10 1) 0) => ?_, fun (hh_1 : ¬ i < f (fv 10 1) 0) => ?_⟩
    · refine hO (k_get_pg (by omega) (show 0 ≤ i ∧ i < 60 from by omega) ?_)
      refine ⟨fun (hh_2 : (f 11 i) = v) => ?_, fun (hh_2 : ¬ (f 11 i) = v) => ?_⟩
      · refine ⟨show (1 : Int) = 0 ∨ 1 = 1 from by decide, ?_⟩
        exact k0 ⟨i, by omega, by omega, by assumption⟩
      · refine ⟨show inr (i + 1) from by constructor <;> omega, ?_⟩
        refine hB (f (fv 10 1) 0 - (i + 1) : Int).toNat ?_ ⟨rfl, (i + 1), rfl, rfl, rfl, rfl, ?_, ?_, ?_⟩
        · omega
        · omega
        · intro q h0 h1
          by_cases e : q = i
          · rw [e]; assumption
          · exact hz q h0 (by omega)
        · omega
    · refine ⟨show (0 : Int) = 0 ∨ 0 = 1 from by decide, ?_⟩
      exact k1 (fun q h0 h1 => hz q h0 (by omega))
  · refine hF (f (fv 10 1) 0 - 0 : Int).toNat ?_ ⟨rfl, 0, rfl, rfl, rfl, rfl, ?_, ?_, ?_⟩
    · omega
    · omega
    · intro q h0 h1; omega
    · omega
set_option maxRecDepth 100000 in
set_option maxHeartbeats 4000000 in
theorem k_give {sa x1 sb x2 : Int} (hd : 4 ≤ d) (hs : 0 ≤ sa ∧ sa < 29 ∧ 0 ≤ sb ∧ sb < 29 ∧ ¬ sa = sb) (hx : -1 ≤ x1 ∧ x1 < (f (fv 1 0) 0) ∧ -1 ≤ x2 ∧ x2 < (f (fv 1 0) 0)) (hcb : (coB f)) (hab : (abOK f)) (k0 : ∀ f1 : iF, (f1 7 = up (up (f 7) sa x1) sb x2) → ((abOK (mx [7, 55] f f1))) → ((coB (mx [7, 55] f f1))) → Q none (mx [7, 55] f f1) g) : wq d 92 [iR 76, iI sa, iI x1, iI sb, iI x2] f g Q := by
  obtain ⟨d, rfl⟩ : ∃ e, d = e + 1 := ⟨d - 1, by omega⟩
  refine i_meth0 rfl rfl (fun O J hO => ?_)
  refine ⟨show 0 ≤ (sa : Int) ∧ sa < 29 from by omega, ?_⟩
  refine ⟨show 0 ≤ (sb : Int) ∧ sb < 29 from by omega, ?_⟩
  have hcb2 : (coB (wv (wv f 7 sa x1) 7 sb x2)) := coB_up (f := f) hcb rfl (by show wv _ 7 sb x2 7 = _; rw [wv_up, wv_up]) ⟨hx.1, hx.2.1⟩ hx.2.2
  refine hO (k_lookAt (by omega) (show 0 ≤ sa ∧ sa < 29 from by omega) (show (coB (wv (wv f 7 sa x1) 7 sb x2)) from hcb2) ?_)
  refine hO (k_lookAt (by omega) (show 0 ≤ sb ∧ sb < 29 from by omega) (show (coB (wv (wv f 7 sa x1) 7 sb x2)) from hcb2) ?_)
  have e70 : (wv f 7 sa x1) 7 = up (f 7) sa x1 := wv_up
  have e71 : (wv (wv f 7 sa x1) 7 sb x2) 7 = up ((wv f 7 sa x1) 7) sb x2 := wv_up
  have e50 : (wv (wv (wv f 7 sa x1) 7 sb x2) 55 sa (b1 ((aC (wv (wv f 7 sa x1) 7 sb x2)) sa))) 55 = up (f 55) sa (b1 ((aC (wv (wv f 7 sa x1) 7 sb x2)) sa)) := wv_up
  have e51 : (wv (wv (wv (wv f 7 sa x1) 7 sb x2) 55 sa (b1 ((aC (wv (wv f 7 sa x1) 7 sb x2)) sa))) 55 sb (b1 ((aC (wv (wv f 7 sa x1) 7 sb x2)) sb))) 55 = up ((wv (wv (wv f 7 sa x1) 7 sb x2) 55 sa (b1 ((aC (wv (wv f 7 sa x1) 7 sb x2)) sa))) 55) sb (b1 ((aC (wv (wv f 7 sa x1) 7 sb x2)) sb)) := wv_up
  have h7 : (wv (wv (wv (wv f 7 sa x1) 7 sb x2) 55 sa (b1 ((aC (wv (wv f 7 sa x1) 7 sb x2)) sa))) 55 sb (b1 ((aC (wv (wv f 7 sa x1) 7 sb x2)) sb))) 7 = up (up (f 7) sa x1) sb x2 := by rw [show (wv (wv (wv (wv f 7 sa x1) 7 sb x2) 55 sa (b1 ((aC (wv (wv f 7 sa x1) 7 sb x2)) sa))) 55 sb (b1 ((aC (wv (wv f 7 sa x1) 7 sb x2)) sb))) 7 = _ from e71, e70]
  have h55 : (wv (wv (wv (wv f 7 sa x1) 7 sb x2) 55 sa (b1 ((aC (wv (wv f 7 sa x1) 7 sb x2)) sa))) 55 sb (b1 ((aC (wv (wv f 7 sa x1) 7 sb x2)) sb))) 55 = up (up (f 55) sa (b1 (aC (mx [7, 55] f (wv (wv (wv (wv f 7 sa x1) 7 sb x2) 55 sa (b1 ((aC (wv (wv f 7 sa x1) 7 sb x2)) sa))) 55 sb (b1 ((aC (wv (wv f 7 sa x1) 7 sb x2)) sb)))) sa))) sb (b1 (aC (mx [7, 55] f (wv (wv (wv (wv f 7 sa x1) 7 sb x2) 55 sa (b1 ((aC (wv (wv f 7 sa x1) 7 sb x2)) sa))) 55 sb (b1 ((aC (wv (wv f 7 sa x1) 7 sb x2)) sb)))) sb)) := by rw [show (wv (wv (wv (wv f 7 sa x1) 7 sb x2) 55 sa (b1 ((aC (wv (wv f 7 sa x1) 7 sb x2)) sa))) 55 sb (b1 ((aC (wv (wv f 7 sa x1) 7 sb x2)) sb))) 55 = _ from e51, e50]; rfl
  have hk := k0 (wv (wv (wv (wv f 7 sa x1) 7 sb x2) 55 sa (b1 ((aC (wv (wv f 7 sa x1) 7 sb x2)) sa))) 55 sb (b1 ((aC (wv (wv f 7 sa x1) 7 sb x2)) sb))) h7 (abOK_up (f := f) (F := (mx [7, 55] f (wv (wv (wv (wv f 7 sa x1) 7 sb x2) 55 sa (b1 ((aC (wv (wv f 7 sa x1) 7 sb x2)) sa))) 55 sb (b1 ((aC (wv (wv f 7 sa x1) 7 sb x2)) sb))))) hab rfl rfl h7 h55) (coB_up (f := f) (F := (mx [7, 55] f (wv (wv (wv (wv f 7 sa x1) 7 sb x2) 55 sa (b1 ((aC (wv (wv f 7 sa x1) 7 sb x2)) sa))) 55 sb (b1 ((aC (wv (wv f 7 sa x1) 7 sb x2)) sb))))) hcb rfl h7 ⟨hx.1, hx.2.1⟩ hx.2.2)
  rw [show mx [7, 55] f (wv (wv (wv (wv f 7 sa x1) 7 sb x2) 55 sa (b1 ((aC (wv (wv f 7 sa x1) 7 sb x2)) sa))) 55 sb (b1 ((aC (wv (wv f 7 sa x1) 7 sb x2)) sb))) = (wv (wv (wv (wv f 7 sa x1) 7 sb x2) 55 sa (b1 ((aC (wv (wv f 7 sa x1) 7 sb x2)) sa))) 55 sb (b1 ((aC (wv (wv f 7 sa x1) 7 sb x2)) sb))) from ((mx_wv rfl (mx_wv rfl (mx_wv rfl (mx_wv rfl mx_rf))))).symm] at hk
  exact hk
set_option maxRecDepth 100000 in
set_option maxHeartbeats 4000000 in
theorem k_isGain {sa sb : Int} (hd : 6 ≤ d) (hs : 0 ≤ sa ∧ sa < 29 ∧ 0 ≤ sb ∧ sb < 29 ∧ ¬ sa = sb) (hrw : rowB (f (fv 10 1) 0) 60 (f 11)) (hea : ∀ o, 0 ≤ o → o < 8 → (f 78 o) = enI (aC f) (f 7) (f (fv 1 15) 0) (lwC f) (f 11) (f (fv 10 1) 0) o) (hcb : (coB f)) (hab : (abOK f)) (hl : (lC f)) (hA : lwask (f (fv 15 5) 0) (lwC f)) (hday : 0 ≤ (f (fv 1 15) 0) ∧ (f (fv 1 15) 0) ≤ 9999) (hmo : mOK (lwC f) g) (k0 : ∀ f1 : iF, ∀ g1 : iG, (gnB (f 8) (f 4) (f 7) (f (fv 1 15) 0) (lwC f) (f 11) (f (fv 10 1) 0) sa sb = true) → (f1 7 = (f 7)) → ((abOK (mx [7, 55, 56, 57, 58] f f1))) → (mOK (lwC f) g1) → Q (some (iI 1)) (mx [7, 55, 56, 57, 58] f f1) g1) (k1 : ∀ f1 : iF, ∀ g1 : iG, (gnB (f 8) (f 4) (f 7) (f (fv 1 15) 0) (lwC f) (f 11) (f (fv 10 1) 0) sa sb = false) → (f1 7 = (f 7)) → ((abOK (mx [7, 55, 56, 57, 58] f f1))) → (mOK (lwC f) g1) → Q (some (iI 0)) (mx [7, 55, 56, 57, 58] f f1) g1) : wq d 91 [iR 76, iI sa, iI sb] f g Q := by
  obtain ⟨d, rfl⟩ : ∃ e, d = e + 1 := ⟨d - 1, by omega⟩
  refine i_meth0 rfl rfl (fun O J hO => ?_)
  have hcb1 := hcb.1
  have hca := hcb.2 sa (by omega) (by omega)
  have hcs := hcb.2 sb (by omega) (by omega)
  have hrw1 := hrw.1
  refine ⟨show 0 ≤ (sa : Int) ∧ sa < 29 from by omega, ?_⟩
  refine ⟨show 0 ≤ (sb : Int) ∧ sb < 29 from by omega, ?_⟩
  refine ⟨fun (hh_1 : f 7 sa = f 7 sb) => ?_, fun (hh_1 : ¬ f 7 sa = f 7 sb) => ?_⟩
  · refine ⟨show (0 : Int) = 0 ∨ 0 = 1 from by decide, ?_⟩
    have hk := k1 f g (by unfold gnB; exact decide_eq_false (fun h => by have h1 := h.1; have h2 := h.2.1; have h3 := h.2.2.1; omega)) rfl (by rw [← mx_rf]; exact hab) hmo
    rw [← mx_rf] at hk
    exact hk
  · refine hO (k_has (by omega) (fun (hh_2 : 0 ≤ (f 7 sa)) (hh_3 : (f 7 sa) < (f (fv 1 0) 0)) (hh_4 : (f 7 sa) < 8) => ?_) (fun (hh_5 : ¬ (0 ≤ (f 7 sa) ∧ (f 7 sa) < (f (fv 1 0) 0) ∧ (f 7 sa) < 8)) => ?_))
    · refine ⟨fun h => absurd (show (1 : Int) = 0 from h) (by decide), fun _ => ?_⟩
      refine hO (k_has (by omega) (fun (hh_6 : 0 ≤ (f 7 sb)) (hh_7 : (f 7 sb) < (f (fv 1 0) 0)) (hh_8 : (f 7 sb) < 8) => ?_) (fun (hh_9 : ¬ (0 ≤ (f 7 sb) ∧ (f 7 sb) < (f (fv 1 0) 0) ∧ (f 7 sb) < 8)) => ?_))
      · refine ⟨fun h => absurd (show (1 : Int) = 0 from h) (by decide), fun _ => ?_⟩
        refine hO (k_give (by omega) (show 0 ≤ sa ∧ sa < 29 ∧ 0 ≤ sb ∧ sb < 29 ∧ ¬ sa = sb from hs) (show -1 ≤ (f 7 sb) ∧ (f 7 sb) < (f (fv 1 0) 0) ∧ -1 ≤ (f 7 sa) ∧ (f 7 sa) < (f (fv 1 0) 0) from by omega) (show (coB f) from hcb) (show (abOK f) from hab) (fun f1_10 (hh_11 : f1_10 7 = up (up (f 7) sa (f 7 sb)) sb (f 7 sa)) (hh_12 : (abOK (mx [7, 55] f f1_10))) (hh_13 : (coB (mx [7, 55] f f1_10))) => ?_))
        have hsw : f1_10 7 = sw (f 7) sa sb := hh_11
        have hab2 := hh_12
        have hcb2 := hh_13
        have haC : (aC (mx [7, 55] f f1_10)) = abl (f 8) (sw (f 7) sa sb) (f 4) := by show abl (f 8) (f1_10 7) (f 4) = _; rw [hsw]
        refine hO (k_earnsFrom_pg (by omega) (show 0 ≤ 0 ∧ 0 ≤ (f (fv 10 1) 0) from by omega) (show 0 = 0 ∨ isL (f 11) (f (fv 10 1) 0) (0 - 1) = false from Or.inl rfl) (show rowB (f (fv 10 1) 0) 60 (f 11) from hrw) (show (coB (mx [7, 55] f f1_10)) from hcb2) (show (abOK (mx [7, 55] f f1_10)) from hab2) (show (lC f) from hl) (show lwask (f (fv 15 5) 0) (lwC f) from hA) (show 0 ≤ (f (fv 1 15) 0) ∧ (f (fv 1 15) 0) ≤ 9999 from hday) (show mOK (lwC f) g from hmo) (fun f1_14 g1_15 (hh_16 : mOK (lwC f) g1_15) => ?_))
        have hen1 : sI (enH (aC (mx [7, 55] f f1_10)) (f1_10 7) (f (fv 1 15) 0) (lwC f) (f 11) (f (fv 10 1) 0) (f 7 sa)) (f (fv 10 1) 0) - sI (enH (aC (mx [7, 55] f f1_10)) (f1_10 7) (f (fv 1 15) 0) (lwC f) (f 11) (f (fv 10 1) 0) (f 7 sa)) 0 = enI (abl (f 8) (sw (f 7) sa sb) (f 4)) (sw (f 7) sa sb) (f (fv 1 15) 0) (lwC f) (f 11) (f (fv 10 1) 0) (f 7 sa) := by rw [sI_0, Int.sub_zero, hsw, haC]; rfl
        have hmo2 := hh_16
        refine ⟨show 0 ≤ (f 7 sa : Int) ∧ f 7 sa < 8 from by omega, ?_⟩
        refine ⟨fun (hh_17 : f 78 (f 7 sa) < sI (enH (aC (mx [7, 55] f f1_10)) (f1_10 7) (f (fv 1 15) 0) (lwC f) (f 11) (f (fv 10 1) 0) (f 7 sa)) (f (fv 10 1) 0) - sI (enH (aC (mx [7, 55] f f1_10)) (f1_10 7) (f (fv 1 15) 0) (lwC f) (f 11) (f (fv 10 1) 0) (f 7 sa)) 0) => ?_, fun (hh_17 : ¬ f 78 (f 7 sa) < sI (enH (aC (mx [7, 55] f f1_10)) (f1_10 7) (f (fv 1 15) 0) (lwC f) (f 11) (f (fv 10 1) 0) (f 7 sa)) (f (fv 10 1) 0) - sI (enH (aC (mx [7, 55] f f1_10)) (f1_10 7) (f (fv 1 15) 0) (lwC f) (f 11) (f (fv 10 1) 0) (f 7 sa)) 0) => ?_⟩
        · refine hO (k_earnsFrom_pg (by omega) (show 0 ≤ 0 ∧ 0 ≤ (f (fv 10 1) 0) from by omega) (show 0 = 0 ∨ isL (f 11) (f (fv 10 1) 0) (0 - 1) = false from Or.inl rfl) (show rowB (f (fv 10 1) 0) 60 (f 11) from hrw) (show (coB (mx [7, 55] f f1_10)) from hcb2) (show (abOK (mx [7, 55] f f1_10)) from hab2) (show (lC f) from hl) (show lwask (f (fv 15 5) 0) (lwC f) from hA) (show 0 ≤ (f (fv 1 15) 0) ∧ (f (fv 1 15) 0) ≤ 9999 from hday) (show mOK (lwC f) g1_15 from hmo2) (fun f1_18 g1_19 (hh_20 : mOK (lwC f) g1_19) => ?_))
          have hen2 : sI (enH (aC (mx [7, 55] f f1_10)) (f1_10 7) (f (fv 1 15) 0) (lwC f) (f 11) (f (fv 10 1) 0) (f 7 sb)) (f (fv 10 1) 0) - sI (enH (aC (mx [7, 55] f f1_10)) (f1_10 7) (f (fv 1 15) 0) (lwC f) (f 11) (f (fv 10 1) 0) (f 7 sb)) 0 = enI (abl (f 8) (sw (f 7) sa sb) (f 4)) (sw (f 7) sa sb) (f (fv 1 15) 0) (lwC f) (f 11) (f (fv 10 1) 0) (f 7 sb) := by rw [sI_0, Int.sub_zero, hsw, haC]; rfl
          have hmo3 := hh_20
          refine ⟨show 0 ≤ (f 7 sb : Int) ∧ f 7 sb < 8 from by omega, ?_⟩
          refine ⟨fun (hh_21 : f 78 (f 7 sb) < sI (enH (aC (mx [7, 55] f f1_10)) (f1_10 7) (f (fv 1 15) 0) (lwC f) (f 11) (f (fv 10 1) 0) (f 7 sb)) (f (fv 10 1) 0) - sI (enH (aC (mx [7, 55] f f1_10)) (f1_10 7) (f (fv 1 15) 0) (lwC f) (f 11) (f (fv 10 1) 0) (f 7 sb)) 0) => ?_, fun (hh_21 : ¬ f 78 (f 7 sb) < sI (enH (aC (mx [7, 55] f f1_10)) (f1_10 7) (f (fv 1 15) 0) (lwC f) (f 11) (f (fv 10 1) 0) (f 7 sb)) (f (fv 10 1) 0) - sI (enH (aC (mx [7, 55] f f1_10)) (f1_10 7) (f (fv 1 15) 0) (lwC f) (f 11) (f (fv 10 1) 0) (f 7 sb)) 0) => ?_⟩
          · refine hO (k_give (by omega) (show 0 ≤ sa ∧ sa < 29 ∧ 0 ≤ sb ∧ sb < 29 ∧ ¬ sa = sb from hs) (show -1 ≤ (f 7 sa) ∧ (f 7 sa) < (f (fv 1 0) 0) ∧ -1 ≤ (f 7 sb) ∧ (f 7 sb) < (f (fv 1 0) 0) from by omega) (show (coB (mx [7, 55] f f1_10)) from hcb2) (show (abOK (mx [7, 55] f f1_10)) from hab2) (fun f1_22 (hh_23 : f1_22 7 = up (up (f1_10 7) sa (f 7 sa)) sb (f 7 sb)) (hh_24 : (abOK (mx [7, 55] (mx [7, 55] f f1_10) f1_22))) (hh_25 : (coB (mx [7, 55] (mx [7, 55] f f1_10) f1_22))) => ?_))
            have hb7 : f1_22 7 = f 7 := by
              rw [hh_23]
              show up (up (f1_10 7) sa (f 7 sa)) sb (f 7 sb) = f 7
              rw [hsw]
              funext k
              by_cases e : k = sb
              · rw [e, up_s]
              · rw [up_n e]
                by_cases e2 : k = sa
                · rw [e2, up_s]
                · rw [up_n e2, sw_o e2 e]
            have hab9 := hh_24
            refine ⟨show (1 : Int) = 0 ∨ 1 = 1 from by decide, ?_⟩
            have ea := hea (f 7 sa) (by omega) (by omega)
            have eb := hea (f 7 sb) (by omega) (by omega)
            have hk := k0 (mx [7, 55] (mx [56, 57, 58] (mx [56, 57, 58] (mx [7, 55] f f1_10) f1_14) f1_18) f1_22) g1_19 (by unfold gnB; exact decide_eq_true ⟨by omega, by omega, by omega, by show enI (aC f) (f 7) (f (fv 1 15) 0) (lwC f) (f 11) (f (fv 10 1) 0) (f 7 sa) < enI (abl (f 8) (sw (f 7) sa sb) (f 4)) (sw (f 7) sa sb) (f (fv 1 15) 0) (lwC f) (f 11) (f (fv 10 1) 0) (f 7 sa); omega, by show enI (aC f) (f 7) (f (fv 1 15) 0) (lwC f) (f 11) (f (fv 10 1) 0) (f 7 sb) < enI (abl (f 8) (sw (f 7) sa sb) (f 4)) (sw (f 7) sa sb) (f (fv 1 15) 0) (lwC f) (f 11) (f (fv 10 1) 0) (f 7 sb); omega⟩) hb7 (by show abOK _; rw [show mx [7, 55, 56, 57, 58] f (mx [7, 55] (mx [56, 57, 58] (mx [56, 57, 58] (mx [7, 55] f f1_10) f1_14) f1_18) f1_22) = (mx [7, 55] (mx [56, 57, 58] (mx [56, 57, 58] (mx [7, 55] f f1_10) f1_14) f1_18) f1_22) from ((mx_mx rfl (mx_mx rfl (mx_mx rfl (mx_mx rfl mx_rf))))).symm]; exact hab9) hmo3
            rw [show mx [7, 55, 56, 57, 58] f (mx [7, 55] (mx [56, 57, 58] (mx [56, 57, 58] (mx [7, 55] f f1_10) f1_14) f1_18) f1_22) = (mx [7, 55] (mx [56, 57, 58] (mx [56, 57, 58] (mx [7, 55] f f1_10) f1_14) f1_18) f1_22) from ((mx_mx rfl (mx_mx rfl (mx_mx rfl (mx_mx rfl mx_rf))))).symm] at hk
            exact hk
          · refine hO (k_give (by omega) (show 0 ≤ sa ∧ sa < 29 ∧ 0 ≤ sb ∧ sb < 29 ∧ ¬ sa = sb from hs) (show -1 ≤ (f 7 sa) ∧ (f 7 sa) < (f (fv 1 0) 0) ∧ -1 ≤ (f 7 sb) ∧ (f 7 sb) < (f (fv 1 0) 0) from by omega) (show (coB (mx [7, 55] f f1_10)) from hcb2) (show (abOK (mx [7, 55] f f1_10)) from hab2) (fun f1_26 (hh_27 : f1_26 7 = up (up (f1_10 7) sa (f 7 sa)) sb (f 7 sb)) (hh_28 : (abOK (mx [7, 55] (mx [7, 55] f f1_10) f1_26))) (hh_29 : (coB (mx [7, 55] (mx [7, 55] f f1_10) f1_26))) => ?_))
            have hb7 : f1_26 7 = f 7 := by
              rw [hh_27]
              show up (up (f1_10 7) sa (f 7 sa)) sb (f 7 sb) = f 7
              rw [hsw]
              funext k
              by_cases e : k = sb
              · rw [e, up_s]
              · rw [up_n e]
                by_cases e2 : k = sa
                · rw [e2, up_s]
                · rw [up_n e2, sw_o e2 e]
            have hab9 := hh_28
            refine ⟨show (0 : Int) = 0 ∨ 0 = 1 from by decide, ?_⟩
            have ea := hea (f 7 sa) (by omega) (by omega)
            have eb := hea (f 7 sb) (by omega) (by omega)
            have hk := k1 (mx [7, 55] (mx [56, 57, 58] (mx [56, 57, 58] (mx [7, 55] f f1_10) f1_14) f1_18) f1_26) g1_19 (by unfold gnB; exact decide_eq_false (fun h => by have h4 : enI (aC f) (f 7) (f (fv 1 15) 0) (lwC f) (f 11) (f (fv 10 1) 0) (f 7 sa) < enI (abl (f 8) (sw (f 7) sa sb) (f 4)) (sw (f 7) sa sb) (f (fv 1 15) 0) (lwC f) (f 11) (f (fv 10 1) 0) (f 7 sa) := h.2.2.2.1; have h5 : enI (aC f) (f 7) (f (fv 1 15) 0) (lwC f) (f 11) (f (fv 10 1) 0) (f 7 sb) < enI (abl (f 8) (sw (f 7) sa sb) (f 4)) (sw (f 7) sa sb) (f (fv 1 15) 0) (lwC f) (f 11) (f (fv 10 1) 0) (f 7 sb) := h.2.2.2.2; omega)) hb7 (by show abOK _; rw [show mx [7, 55, 56, 57, 58] f (mx [7, 55] (mx [56, 57, 58] (mx [56, 57, 58] (mx [7, 55] f f1_10) f1_14) f1_18) f1_26) = (mx [7, 55] (mx [56, 57, 58] (mx [56, 57, 58] (mx [7, 55] f f1_10) f1_14) f1_18) f1_26) from ((mx_mx rfl (mx_mx rfl (mx_mx rfl (mx_mx rfl mx_rf))))).symm]; exact hab9) (by first | exact hmo2 | exact hmo3)
            rw [show mx [7, 55, 56, 57, 58] f (mx [7, 55] (mx [56, 57, 58] (mx [56, 57, 58] (mx [7, 55] f f1_10) f1_14) f1_18) f1_26) = (mx [7, 55] (mx [56, 57, 58] (mx [56, 57, 58] (mx [7, 55] f f1_10) f1_14) f1_18) f1_26) from ((mx_mx rfl (mx_mx rfl (mx_mx rfl (mx_mx rfl mx_rf))))).symm] at hk
            exact hk
        · refine hO (k_give (by omega) (show 0 ≤ sa ∧ sa < 29 ∧ 0 ≤ sb ∧ sb < 29 ∧ ¬ sa = sb from hs) (show -1 ≤ (f 7 sa) ∧ (f 7 sa) < (f (fv 1 0) 0) ∧ -1 ≤ (f 7 sb) ∧ (f 7 sb) < (f (fv 1 0) 0) from by omega) (show (coB (mx [7, 55] f f1_10)) from hcb2) (show (abOK (mx [7, 55] f f1_10)) from hab2) (fun f1_30 (hh_31 : f1_30 7 = up (up (f1_10 7) sa (f 7 sa)) sb (f 7 sb)) (hh_32 : (abOK (mx [7, 55] (mx [7, 55] f f1_10) f1_30))) (hh_33 : (coB (mx [7, 55] (mx [7, 55] f f1_10) f1_30))) => ?_))
          have hb7 : f1_30 7 = f 7 := by
            rw [hh_31]
            show up (up (f1_10 7) sa (f 7 sa)) sb (f 7 sb) = f 7
            rw [hsw]
            funext k
            by_cases e : k = sb
            · rw [e, up_s]
            · rw [up_n e]
              by_cases e2 : k = sa
              · rw [e2, up_s]
              · rw [up_n e2, sw_o e2 e]
          have hab9 := hh_32
          refine ⟨show (0 : Int) = 0 ∨ 0 = 1 from by decide, ?_⟩
          have ea := hea (f 7 sa) (by omega) (by omega)
          have eb := hea (f 7 sb) (by omega) (by omega)
          have hk := k1 (mx [7, 55] (mx [56, 57, 58] (mx [7, 55] f f1_10) f1_14) f1_30) g1_15 (by unfold gnB; exact decide_eq_false (fun h => by have h4 : enI (aC f) (f 7) (f (fv 1 15) 0) (lwC f) (f 11) (f (fv 10 1) 0) (f 7 sa) < enI (abl (f 8) (sw (f 7) sa sb) (f 4)) (sw (f 7) sa sb) (f (fv 1 15) 0) (lwC f) (f 11) (f (fv 10 1) 0) (f 7 sa) := h.2.2.2.1; have h5 : enI (aC f) (f 7) (f (fv 1 15) 0) (lwC f) (f 11) (f (fv 10 1) 0) (f 7 sb) < enI (abl (f 8) (sw (f 7) sa sb) (f 4)) (sw (f 7) sa sb) (f (fv 1 15) 0) (lwC f) (f 11) (f (fv 10 1) 0) (f 7 sb) := h.2.2.2.2; omega)) hb7 (by show abOK _; rw [show mx [7, 55, 56, 57, 58] f (mx [7, 55] (mx [56, 57, 58] (mx [7, 55] f f1_10) f1_14) f1_30) = (mx [7, 55] (mx [56, 57, 58] (mx [7, 55] f f1_10) f1_14) f1_30) from ((mx_mx rfl (mx_mx rfl (mx_mx rfl mx_rf)))).symm]; exact hab9) (by first | exact hmo2 | exact hmo3)
          rw [show mx [7, 55, 56, 57, 58] f (mx [7, 55] (mx [56, 57, 58] (mx [7, 55] f f1_10) f1_14) f1_30) = (mx [7, 55] (mx [56, 57, 58] (mx [7, 55] f f1_10) f1_14) f1_30) from ((mx_mx rfl (mx_mx rfl (mx_mx rfl mx_rf)))).symm] at hk
          exact hk
      · refine ⟨fun _ => ?_, fun h => absurd (show (0 : Int) = 0 from by decide) h⟩
        refine ⟨show (0 : Int) = 0 ∨ 0 = 1 from by decide, ?_⟩
        have hk := k1 f g (by unfold gnB; exact decide_eq_false (fun h => by have h1 := h.1; have h2 := h.2.1; have h3 := h.2.2.1; omega)) rfl (by rw [← mx_rf]; exact hab) hmo
        rw [← mx_rf] at hk
        exact hk
    · refine ⟨fun _ => ?_, fun h => absurd (show (0 : Int) = 0 from by decide) h⟩
      refine ⟨show (0 : Int) = 0 ∨ 0 = 1 from by decide, ?_⟩
      have hk := k1 f g (by unfold gnB; exact decide_eq_false (fun h => by have h1 := h.1; have h2 := h.2.1; have h3 := h.2.2.1; omega)) rfl (by rw [← mx_rf]; exact hab) hmo
      rw [← mx_rf] at hk
      exact hk
set_option maxRecDepth 100000 in
set_option maxHeartbeats 4000000 in
theorem k_bcount {sa sb : Int} (hd : 1 ≤ d) (hn : 0 ≤ (f 77 0) ∧ (f 77 0) ≤ 841) (k0 : ((f 77 0) = 0) → Q none (wv (wv (wv f 77 1 sa) 77 2 sb) 77 0 ((f 77 0) + 1)) g) (k1 : (¬ (f 77 0) = 0) → Q none (wv f 77 0 ((f 77 0) + 1)) g) : wq d 90 [iR 76, iI sa, iI sb] f g Q := by
  obtain ⟨d, rfl⟩ : ∃ e, d = e + 1 := ⟨d - 1, by omega⟩
  refine i_meth0 rfl rfl (fun O J hO => ?_)
  refine ⟨show 0 ≤ (0 : Int) ∧ 0 < 3 from by decide, ?_⟩
  refine ⟨fun (hh_1 : f 77 0 = 0) => ?_, fun (hh_1 : ¬ f 77 0 = 0) => ?_⟩
  · refine ⟨show 0 ≤ (1 : Int) ∧ 1 < 3 from by decide, ?_⟩
    refine ⟨show 0 ≤ (2 : Int) ∧ 2 < 3 from by decide, ?_⟩
    refine ⟨show 0 ≤ (0 : Int) ∧ 0 < 3 from by decide, ?_⟩
    refine Or.inl ⟨show inr ((f 77 0) + 1) from by constructor <;> omega, ?_⟩
    refine ⟨show 0 ≤ (0 : Int) ∧ 0 < 3 from by decide, ?_⟩
    exact k0 (by assumption)
  · refine ⟨show 0 ≤ (0 : Int) ∧ 0 < 3 from by decide, ?_⟩
    refine Or.inl ⟨show inr ((f 77 0) + 1) from by constructor <;> omega, ?_⟩
    refine ⟨show 0 ≤ (0 : Int) ∧ 0 < 3 from by decide, ?_⟩
    exact k1 (by assumption)
theorem swI_cg0 {G : Int → Bool} {r : iF} (h : ∀ k, 0 ≤ k → k < 3 → r 77 k = -1) : swI G (29 * 0) 0 (-1) := swI_0
set_option maxRecDepth 100000 in
set_option maxHeartbeats 4000000 in
theorem k_bseek (hd : 7 ≤ d) (hrw : rowB (f (fv 10 1) 0) 60 (f 11)) (hcb : (coB f)) (hl : (lC f)) (hA : lwask (f (fv 15 5) 0) (lwC f)) (hday : 0 ≤ (f (fv 1 15) 0) ∧ (f (fv 1 15) 0) ≤ 9999) (hmo : mOK (lwC f) g) (k0 : ∀ f1 : iF, ∀ g1 : iG, (f1 (fv 76 0) 0 = 1) → (SwpP (gnQ (f 8) (f 4) (f 7) (f (fv 1 15) 0) (lwC f) (f 11) (f (fv 10 1) 0)) (fun w => f1 77 w)) → (f1 7 = (f 7)) → (mOK (lwC f) g1) → Q none (mx [7, 55, 56, 57, 58, 77, 78, fv 76 0] f f1) g1) : wq d 89 [iR 76] f g Q := by
  obtain ⟨d, rfl⟩ : ∃ e, d = e + 1 := ⟨d - 1, by omega⟩
  refine i_meth [(25, 2), (39, 3)] (fun n j lv st f' g' => (j = 25 ∧ ∃ (aa : Int) (fi : Int) (f1 : iF) (g1 : iG), lv = [some (iR 76), some (iI aa)] ∧ st = [] ∧ f' = (mx [7, 55, 56, 57, 58, 77, 78, fv 76 0] f f1) ∧ g1 = g' ∧ (f1 7 = f 7) ∧ ((abOK (mx [7, 55, 56, 57, 58, 77, 78, fv 76 0] f f1))) ∧ (mOK (lwC f) g1) ∧ (∀ o, 0 ≤ o → o < 8 → f1 78 o = enI (aC f) (f 7) (f (fv 1 15) 0) (lwC f) (f 11) (f (fv 10 1) 0) o) ∧ (f1 (fv 76 0) 0 = 1) ∧ (0 ≤ aa ∧ aa ≤ 29) ∧ (swI (gnQ (f 8) (f 4) (f 7) (f (fv 1 15) 0) (lwC f) (f 11) (f (fv 10 1) 0)) (29 * aa) (f1 77 0) fi) ∧ (f1 77 1 = (if fi = -1 then -1 else fi / 29) ∧ f1 77 2 = (if fi = -1 then -1 else fi % 29)) ∧ (n : Int) = (29 - aa) * 31) ∨ (j = 39 ∧ ∃ (aa : Int) (bb : Int) (fi : Int) (f1 : iF) (g1 : iG), lv = [some (iR 76), some (iI aa), some (iI bb)] ∧ st = [] ∧ f' = (mx [7, 55, 56, 57, 58, 77, 78, fv 76 0] f f1) ∧ g1 = g' ∧ (f1 7 = f 7) ∧ ((abOK (mx [7, 55, 56, 57, 58, 77, 78, fv 76 0] f f1))) ∧ (mOK (lwC f) g1) ∧ (∀ o, 0 ≤ o → o < 8 → f1 78 o = enI (aC f) (f 7) (f (fv 1 15) 0) (lwC f) (f 11) (f (fv 10 1) 0) o) ∧ (f1 (fv 76 0) 0 = 1) ∧ (0 ≤ aa ∧ aa < 29 ∧ aa < bb ∧ bb ≤ 29) ∧ (swI (gnQ (f 8) (f 4) (f 7) (f (fv 1 15) 0) (lwC f) (f 11) (f (fv 10 1) 0)) (29 * aa + bb) (f1 77 0) fi) ∧ (f1 77 1 = (if fi = -1 then -1 else fi / 29) ∧ f1 77 2 = (if fi = -1 then -1 else fi % 29)) ∧ (n : Int) = (29 - aa) * 31 - bb)) 1000 (by omega) rfl rfl (fun n j lv st f' g' hn hI O J hO hF hB => ?_) (fun hvs hin O J hO hF => ?_)
  · rcases hI with hI | hI
    · obtain ⟨rfl, aa, fi, f1, g1, rfl, rfl, rfl, rfl, h7, hab, hmo1, he, hk, hv, hI, hans, hm⟩ := hI
      have hrw1 := hrw.1
      have haC : aC (mx [7, 55, 56, 57, 58, 77, 78, fv 76 0] f f1) = aC f := by show abl (f 8) (f1 7) (f 4) = _; rw [h7]; rfl
      have hcb2 : coB (mx [7, 55, 56, 57, 58, 77, 78, fv 76 0] f f1) := coB_eq (f := f) h7 rfl hcb
      have hsr := swI_r (by omega) hI
      refine ⟨fun (hh_1 : aa < 29) => ?_, fun (hh_1 : ¬ aa < 29) => ?_⟩
      · refine hO (k_holds (by omega) (show 0 ≤ (f (fv 10 1) 0) ∧ (f (fv 10 1) 0) ≤ 60 from by omega) (fun (hh_2 : ∃ q, 0 ≤ q ∧ q < (f (fv 10 1) 0) ∧ (f 11 q) = aa) => ?_) (fun (hh_3 : ∀ q, 0 ≤ q → q < (f (fv 10 1) 0) → ¬ (f 11 q) = aa) => ?_))
        · refine ⟨fun h => absurd (show (1 : Int) = 0 from h) (by decide), fun _ => ?_⟩
          refine Or.inl ⟨show inr (aa + 1) from by constructor <;> omega, ?_⟩
          refine hF ((29 - aa) * 31 - (aa + 1) : Int).toNat ?_ (Or.inr (⟨rfl, aa, (aa + 1), fi, f1, g1, rfl, rfl, rfl, rfl, ?_, ?_, ?_, ?_, ?_, ?_, ?_, ?_, ?_⟩))
          · omega
          · first | exact h7a.trans h7 | exact h7 | rfl
          · first | exact hab8 | exact hab | exact hab0
          · first | exact hmo8 | exact hmo1 | exact hmoA
          · first | exact he | exact he0
          · first | exact hk | rfl
          · omega
          · rw [show 29 * aa + (aa + 1) = 29 * aa + ((aa + 1).toNat : Int) by omega]; exact swI_skip (by omega) hI (aa + 1).toNat (fun k h0 h1 => gnQ_no (by omega))
          · exact hans
          · omega
        · have hoff := hh_3
          refine ⟨fun _ => ?_, fun h => absurd (show (0 : Int) = 0 from by decide) h⟩
          refine ⟨show inr (aa + 1) from by constructor <;> omega, ?_⟩
          refine hB ((29 - (aa + 1)) * 31 : Int).toNat ?_ (Or.inl ⟨rfl, (aa + 1), fi, f1, g1, rfl, rfl, rfl, rfl, ?_, ?_, ?_, ?_, ?_, ?_, ?_, ?_, ?_⟩)
          · omega
          · first | exact h7a.trans h7 | exact h7 | rfl
          · first | exact hab8 | exact hab | exact hab0
          · first | exact hmo8 | exact hmo1 | exact hmoA
          · first | exact he | exact he0
          · first | exact hk | rfl
          · omega
          · rw [show 29 * (aa + 1) = 29 * aa + ((29 : Nat) : Int) by omega]; exact swI_skip (by omega) hI 29 (fun q h0 h1 => by by_cases e : q % 29 ≤ q / 29; exact gnQ_no e; rw [show q = 29 * (q / 29) + q % 29 by omega, gnQ_st (by omega) (by omega) (by omega)]; exact gnB_off (by omega) (by omega) (Or.inl (by rw [show q / 29 = aa by omega]; exact hoff)) (by omega))
          · exact hans
          · omega
      · have hI2 : swI (gnQ (f 8) (f 4) (f 7) (f (fv 1 15) 0) (lwC f) (f 11) (f (fv 10 1) 0)) 841 (f1 77 0) fi := by rw [show aa = 29 by omega] at hI; exact hI
        refine k0 f1 g1 hk ⟨hI2.1, ?_⟩ h7 hmo1
        rcases hI2.2 with ⟨q2, q3, q4⟩ | ⟨q2, q3, q4, q5, q6⟩
        · exact Or.inl ⟨q2, by show f1 77 1 = -1; rw [hans.1, if_pos q3], by show f1 77 2 = -1; rw [hans.2, if_pos q3]⟩
        · exact Or.inr ⟨q2, fi, q3, by omega, q5, q6, by show f1 77 1 = _; rw [hans.1, if_neg (by omega)], by show f1 77 2 = _; rw [hans.2, if_neg (by omega)]⟩
    · obtain ⟨rfl, aa, bb, fi, f1, g1, rfl, rfl, rfl, rfl, h7, hab, hmo1, he, hk, hv, hI, hans, hm⟩ := hI
      have hrw1 := hrw.1
      have haC : aC (mx [7, 55, 56, 57, 58, 77, 78, fv 76 0] f f1) = aC f := by show abl (f 8) (f1 7) (f 4) = _; rw [h7]; rfl
      have hcb2 : coB (mx [7, 55, 56, 57, 58, 77, 78, fv 76 0] f f1) := coB_eq (f := f) h7 rfl hcb
      have hsr := swI_r (by omega) hI
      refine ⟨fun (hh_4 : bb < 29) => ?_, fun (hh_4 : ¬ bb < 29) => ?_⟩
      · refine hO (k_holds (by omega) (show 0 ≤ (f (fv 10 1) 0) ∧ (f (fv 10 1) 0) ≤ 60 from by omega) (fun (hh_5 : ∃ q, 0 ≤ q ∧ q < (f (fv 10 1) 0) ∧ (f 11 q) = bb) => ?_) (fun (hh_6 : ∀ q, 0 ≤ q → q < (f (fv 10 1) 0) → ¬ (f 11 q) = bb) => ?_))
        · refine ⟨fun h => absurd (show (1 : Int) = 0 from h) (by decide), fun _ => ?_⟩
          refine hO (k_isGain (by omega) (show 0 ≤ aa ∧ aa < 29 ∧ 0 ≤ bb ∧ bb < 29 ∧ ¬ aa = bb from by omega) (show rowB (f (fv 10 1) 0) 60 (f 11) from hrw) (show ∀ o, 0 ≤ o → o < 8 → (f1 78 o) = enI (aC (mx [7, 55, 56, 57, 58, 77, 78, fv 76 0] f f1)) (f1 7) (f (fv 1 15) 0) (lwC f) (f 11) (f (fv 10 1) 0) o from by rw [haC, h7]; exact he) (show (coB (mx [7, 55, 56, 57, 58, 77, 78, fv 76 0] f f1)) from hcb2) (show (abOK (mx [7, 55, 56, 57, 58, 77, 78, fv 76 0] f f1)) from hab) (show (lC f) from hl) (show lwask (f (fv 15 5) 0) (lwC f) from hA) (show 0 ≤ (f (fv 1 15) 0) ∧ (f (fv 1 15) 0) ≤ 9999 from hday) (show mOK (lwC f) g1 from hmo1) (fun f1_7 g1_8 (hh_9 : gnB (f 8) (f 4) (f1 7) (f (fv 1 15) 0) (lwC f) (f 11) (f (fv 10 1) 0) aa bb = true) (hh_10 : f1_7 7 = (f1 7)) (hh_11 : (abOK (mx [7, 55, 56, 57, 58] (mx [7, 55, 56, 57, 58, 77, 78, fv 76 0] f f1) f1_7))) (hh_12 : mOK (lwC f) g1_8) => ?_) (fun f1_13 g1_14 (hh_15 : gnB (f 8) (f 4) (f1 7) (f (fv 1 15) 0) (lwC f) (f 11) (f (fv 10 1) 0) aa bb = false) (hh_16 : f1_13 7 = (f1 7)) (hh_17 : (abOK (mx [7, 55, 56, 57, 58] (mx [7, 55, 56, 57, 58, 77, 78, fv 76 0] f f1) f1_13))) (hh_18 : mOK (lwC f) g1_14) => ?_))
          · have hG : (gnQ (f 8) (f 4) (f 7) (f (fv 1 15) 0) (lwC f) (f 11) (f (fv 10 1) 0)) (29 * aa + bb) = true := by rw [gnQ_st (by omega) (by omega) (by omega), ← h7]; exact hh_9
            have h7a := hh_10
            have hab8 := hh_11
            have hmo8 := hh_12
            refine ⟨fun h => absurd (show (1 : Int) = 0 from h) (by decide), fun _ => ?_⟩
            refine hO (k_bcount (by omega) (show 0 ≤ (f1 77 0) ∧ (f1 77 0) ≤ 841 from by omega) (fun (hh_19 : (f1 77 0) = 0) => ?_) (fun (hh_20 : ¬ (f1 77 0) = 0) => ?_))
            · refine ⟨show inr (bb + 1) from by constructor <;> omega, ?_⟩
              refine hB ((29 - aa) * 31 - (bb + 1) : Int).toNat ?_ (Or.inr (⟨rfl, aa, (bb + 1), (29 * aa + bb), (wv (wv (wv (mx [7, 55, 56, 57, 58] f1 f1_7) 77 1 aa) 77 2 bb) 77 0 ((f1 77 0) + 1)), g1_8, rfl, rfl, (mx_wv rfl (mx_wv rfl (mx_wv rfl (mx_mx rfl rfl)))), rfl, ?_, ?_, ?_, ?_, ?_, ?_, ?_, ?_, ?_⟩))
              · omega
              · first | exact h7a.trans h7 | exact h7 | rfl
              · first | exact hab8 | exact hab | exact hab0
              · first | exact hmo8 | exact hmo1 | exact hmoA
              · first | exact he | exact he0
              · first | exact hk | rfl
              · omega
              · rw [show 29 * aa + (bb + 1) = 29 * aa + bb + 1 by omega]
                have hx := swI_t (by omega) hI hG
                first | (rw [if_pos (by assumption)] at hx; exact hx) | (rw [if_neg (by assumption)] at hx; exact hx)
              · rw [if_neg (by omega), if_neg (by omega)]
                exact ⟨by show aa = _; omega, by show bb = _; omega⟩
              · omega
            · refine ⟨show inr (bb + 1) from by constructor <;> omega, ?_⟩
              refine hB ((29 - aa) * 31 - (bb + 1) : Int).toNat ?_ (Or.inr (⟨rfl, aa, (bb + 1), fi, (wv (mx [7, 55, 56, 57, 58] f1 f1_7) 77 0 ((f1 77 0) + 1)), g1_8, rfl, rfl, (mx_wv rfl (mx_mx rfl rfl)), rfl, ?_, ?_, ?_, ?_, ?_, ?_, ?_, ?_, ?_⟩))
              · omega
              · first | exact h7a.trans h7 | exact h7 | rfl
              · first | exact hab8 | exact hab | exact hab0
              · first | exact hmo8 | exact hmo1 | exact hmoA
              · first | exact he | exact he0
              · first | exact hk | rfl
              · omega
              · rw [show 29 * aa + (bb + 1) = 29 * aa + bb + 1 by omega]
                have hx := swI_t (by omega) hI hG
                first | (rw [if_pos (by assumption)] at hx; exact hx) | (rw [if_neg (by assumption)] at hx; exact hx)
              · exact hans
              · omega
          · have hG : (gnQ (f 8) (f 4) (f 7) (f (fv 1 15) 0) (lwC f) (f 11) (f (fv 10 1) 0)) (29 * aa + bb) = false := by rw [gnQ_st (by omega) (by omega) (by omega), ← h7]; exact hh_15
            have h7a := hh_16
            have hab8 := hh_17
            have hmo8 := hh_18
            refine ⟨fun _ => ?_, fun h => absurd (show (0 : Int) = 0 from by decide) h⟩
            refine ⟨show inr (bb + 1) from by constructor <;> omega, ?_⟩
            refine hB ((29 - aa) * 31 - (bb + 1) : Int).toNat ?_ (Or.inr (⟨rfl, aa, (bb + 1), fi, (mx [7, 55, 56, 57, 58] f1 f1_13), g1_14, rfl, rfl, (mx_mx rfl rfl), rfl, ?_, ?_, ?_, ?_, ?_, ?_, ?_, ?_, ?_⟩))
            · omega
            · first | exact h7a.trans h7 | exact h7 | rfl
            · first | exact hab8 | exact hab | exact hab0
            · first | exact hmo8 | exact hmo1 | exact hmoA
            · first | exact he | exact he0
            · first | exact hk | rfl
            · omega
            · rw [show 29 * aa + (bb + 1) = 29 * aa + bb + 1 by omega]
              exact swI_f (by omega) hI hG
            · exact hans
            · omega
        · have hG : (gnQ (f 8) (f 4) (f 7) (f (fv 1 15) 0) (lwC f) (f 11) (f (fv 10 1) 0)) (29 * aa + bb) = false := by rw [gnQ_st (by omega) (by omega) (by omega)]; exact gnB_off (by omega) (by omega) (Or.inr hh_6) (by omega)
          refine ⟨fun _ => ?_, fun h => absurd (show (0 : Int) = 0 from by decide) h⟩
          refine ⟨show inr (bb + 1) from by constructor <;> omega, ?_⟩
          refine hB ((29 - aa) * 31 - (bb + 1) : Int).toNat ?_ (Or.inr (⟨rfl, aa, (bb + 1), fi, f1, g1, rfl, rfl, rfl, rfl, ?_, ?_, ?_, ?_, ?_, ?_, ?_, ?_, ?_⟩))
          · omega
          · first | exact h7a.trans h7 | exact h7 | rfl
          · first | exact hab8 | exact hab | exact hab0
          · first | exact hmo8 | exact hmo1 | exact hmoA
          · first | exact he | exact he0
          · first | exact hk | rfl
          · omega
          · rw [show 29 * aa + (bb + 1) = 29 * aa + bb + 1 by omega]
            exact swI_f (by omega) hI hG
          · exact hans
          · omega
      · refine ⟨show inr (aa + 1) from by constructor <;> omega, ?_⟩
        refine hB ((29 - (aa + 1)) * 31 : Int).toNat ?_ (Or.inl ⟨rfl, (aa + 1), fi, f1, g1, rfl, rfl, rfl, rfl, ?_, ?_, ?_, ?_, ?_, ?_, ?_, ?_, ?_⟩)
        · omega
        · first | exact h7a.trans h7 | exact h7 | rfl
        · first | exact hab8 | exact hab | exact hab0
        · first | exact hmo8 | exact hmo1 | exact hmoA
        · first | exact he | exact he0
        · first | exact hk | rfl
        · omega
        · rw [show 29 * (aa + 1) = 29 * aa + bb by omega]; exact hI
        · exact hans
        · omega
  · have hrw1 := hrw.1
    refine ⟨show (1 : Int) = 0 ∨ 1 = 1 from by decide, ?_⟩
    refine hO (k_fill_77 (by omega) (fun f1_21 (hh_22 : ∀ k, 0 ≤ k → k < 3 → f1_21 77 k = (-1)) => ?_))
    have hz0 := hh_22
    refine ⟨show 0 ≤ (0 : Int) ∧ 0 < 3 from by decide, ?_⟩
    refine hO (k_lookOver (by omega) (show (coB f) from hcb) (fun f1_23 (hh_24 : ∀ s, 0 ≤ s → s < 29 → f1_23 55 s = b1 ((aC f) s)) => ?_))
    have hab0 := hh_24
    refine hO (k_earnings_pg_78 (by omega) (show rowB (f (fv 10 1) 0) 60 (f 11) from hrw) (show (coB f) from hcb) (show (abOK (mx [55] f f1_23)) from hab0) (show (lC f) from hl) (show lwask (f (fv 15 5) 0) (lwC f) from hA) (show 0 ≤ (f (fv 1 15) 0) ∧ (f (fv 1 15) 0) ≤ 9999 from hday) (show mOK (lwC f) g from hmo) (fun f1_25 g1_26 (hh_27 : ∀ a, 0 ≤ a → a < 8 → f1_25 78 a = enI (aC f) (f 7) (f (fv 1 15) 0) (lwC f) (f 11) (f (fv 10 1) 0) a) (hh_28 : mOK (lwC f) g1_26) => ?_))
    have he0 := hh_27
    have hmoA := hh_28
    refine hF ((29 - 0) * 31 : Int).toNat ?_ (Or.inl ⟨rfl, 0, (-1), (mx [56, 57, 58, 78] (mx [55] (wv (mx [77] (wv f (fv 76 0) 0 1) f1_21) 77 0 0) f1_23) f1_25), g1_26, rfl, rfl, (mx_mx rfl (mx_mx rfl (mx_wv rfl (mx_mx rfl (mx_wv rfl mx_rf))))), rfl, ?_, ?_, ?_, ?_, ?_, ?_, ?_, ?_, ?_⟩)
    · omega
    · first | exact h7a.trans h7 | exact h7 | rfl
    · first | exact hab8 | exact hab | exact hab0
    · first | exact hmo8 | exact hmo1 | exact hmoA
    · first | exact he | exact he0
    · first | exact hk | rfl
    · omega
    · exact swI_cg0 hz0
    · exact ⟨hz0 1 (by decide) (by decide), hz0 2 (by decide) (by decide)⟩
    · omega
set_option maxRecDepth 100000 in
set_option maxHeartbeats 4000000 in
theorem k_swap {w : Int} (hd : 8 ≤ d) (hrw : rowB (f (fv 10 1) 0) 60 (f 11)) (hcb : (coB f)) (hl : (lC f)) (hA : lwask (f (fv 15 5) 0) (lwC f)) (hday : 0 ≤ (f (fv 1 15) 0) ∧ (f (fv 1 15) 0) ≤ 9999) (hmo : mOK (lwC f) g) (k0 : (¬ (0 ≤ w ∧ w ≤ 2)) → Q (some (iI (-1))) f g) (k1 : (0 ≤ w ∧ w ≤ 2) → (¬ (f (fv 76 0) 0) = 0) → Q (some (iI (f 77 w))) f g) (k2 : ∀ f1 : iF, ∀ g1 : iG, (0 ≤ w ∧ w ≤ 2) → (f1 (fv 76 0) 0 = 1) → (SwpP (gnQ (f 8) (f 4) (f 7) (f (fv 1 15) 0) (lwC f) (f 11) (f (fv 10 1) 0)) (fun w => f1 77 w)) → (f1 7 = (f 7)) → (mOK (lwC f) g1) → Q (some (iI (f1 77 w))) (mx [7, 55, 56, 57, 58, 77, 78, fv 76 0] f f1) g1) : wq d 208 [iR 0, iI w] f g Q := by
  obtain ⟨d, rfl⟩ : ∃ e, d = e + 1 := ⟨d - 1, by omega⟩
  refine i_meth0 rfl rfl (fun O J hO => ?_)
  refine ⟨fun (hh_1 : w < 0) => ?_, fun (hh_1 : ¬ w < 0) => ?_⟩
  · exact k0 (by omega)
  · refine ⟨fun (hh_2 : 2 < w) => ?_, fun (hh_2 : ¬ 2 < w) => ?_⟩
    · exact k0 (by omega)
    · refine ⟨fun (hh_3 : f (fv 76 0) 0 = 0) => ?_, fun (hh_3 : ¬ f (fv 76 0) 0 = 0) => ?_⟩
      · refine hO (k_bseek (by omega) (show rowB (f (fv 10 1) 0) 60 (f 11) from hrw) (show (coB f) from hcb) (show (lC f) from hl) (show lwask (f (fv 15 5) 0) (lwC f) from hA) (show 0 ≤ (f (fv 1 15) 0) ∧ (f (fv 1 15) 0) ≤ 9999 from hday) (show mOK (lwC f) g from hmo) (fun f1_4 g1_5 (hh_6 : f1_4 (fv 76 0) 0 = 1) (hh_7 : SwpP (gnQ (f 8) (f 4) (f 7) (f (fv 1 15) 0) (lwC f) (f 11) (f (fv 10 1) 0)) (fun w => f1_4 77 w)) (hh_8 : f1_4 7 = (f 7)) (hh_9 : mOK (lwC f) g1_5) => ?_))
        refine ⟨show 0 ≤ (w : Int) ∧ w < 3 from by omega, ?_⟩
        exact k2 f1_4 g1_5 (by omega) (by assumption) (by assumption) (by assumption) (by assumption)
      · refine ⟨show 0 ≤ (w : Int) ∧ w < 3 from by omega, ?_⟩
        exact k1 (by omega) (by omega)
end C29
