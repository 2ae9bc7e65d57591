section C49
variable {d : Nat} {f : iF} {g : iG} {Q : Option iv → iF → iG → Prop}
set_option maxRecDepth 100000 in
set_option maxHeartbeats 4000000 in
theorem k_fewest {w : Int} (hd : 8 ≤ d) (hpg : rowB (f (fv 10 1) 0) 60 (f 11)) (hhu : 0 ≤ (f (fv 62 11) 0) ∧ (f (fv 62 11) 0) < 8) (hcb : (coB f)) (hst : ∀ o, 0 ≤ o → o < 8 → (f 4 o) = 0 ∨ (f 4 o) = 1) (hbr : ∀ o, 0 ≤ o → o < 8 → 0 ≤ (f 3 o) ∧ (f 3 o) ≤ 99) (hl : (lC f)) (hA : lwask (f (fv 15 5) 0) (lwC f)) (hday : 0 ≤ (f (fv 1 15) 0) ∧ (f (fv 1 15) 0) ≤ 9999) (hmo : mOK (lwC f) g) (k0 : (¬ (0 ≤ w ∧ w ≤ 4)) → Q (some (iI (-1))) f g) (k1 : (0 ≤ w ∧ w ≤ 4) → (¬ (f (fv 62 0) 0) = 0) → Q (some (iI (f 63 w))) f g) (k2 : ∀ f1 : iF, ∀ g1 : iG, (0 ≤ w ∧ w ≤ 4) → (f1 (fv 62 0) 0 = 1) → (FewP (fun row => alE (aC f) (f 7) (f (fv 1 15) 0) (lwC f) (f 3) (f 4) (f 8) (f (fv 1 0) 0) row (f (fv 10 1) 0)) (f 11) (f (fv 10 1) 0) (f1 63)) → (0 ≤ f1 (fv 62 11) 0 ∧ f1 (fv 62 11) 0 < 8) → (mOK (lwC f) g1) → Q (some (iI (f1 63 w))) (mx [55, 56, 57, 58, 63, 65, 66, 67, 68, 69, 70, 71, fv 62 0, fv 62 11, fv 64 1] f f1) g1) : wq d 204 [iR 0, iI w] f g Q := by
  obtain ⟨d, rfl⟩ : ∃ e, d = e + 1 := ⟨d - 1, by omega⟩
  refine i_meth0 rfl rfl (fun O J hO => ?_)
  refine ⟨fun (hh_1 : w < 0) => ?_, fun (hh_1 : ¬ w < 0) => ?_⟩
  · exact k0 (by omega)
  · refine ⟨fun (hh_2 : 4 < w) => ?_, fun (hh_2 : ¬ 4 < w) => ?_⟩
    · exact k0 (by omega)
    · refine ⟨fun (hh_3 : f (fv 62 0) 0 = 0) => ?_, fun (hh_3 : ¬ f (fv 62 0) 0 = 0) => ?_⟩
      · refine hO (k_seek (by omega) (show rowB (f (fv 10 1) 0) 60 (f 11) from hpg) (show 0 ≤ (f (fv 62 11) 0) ∧ (f (fv 62 11) 0) < 8 from hhu) (show (coB f) from hcb) (show ∀ o, 0 ≤ o → o < 8 → (f 4 o) = 0 ∨ (f 4 o) = 1 from hst) (show ∀ o, 0 ≤ o → o < 8 → 0 ≤ (f 3 o) ∧ (f 3 o) ≤ 99 from hbr) (show (lC f) from hl) (show lwask (f (fv 15 5) 0) (lwC f) from hA) (show 0 ≤ (f (fv 1 15) 0) ∧ (f (fv 1 15) 0) ≤ 9999 from hday) (show mOK (lwC f) g from hmo) (fun f1_4 g1_5 (hh_6 : f1_4 (fv 62 0) 0 = 1) (hh_7 : FewP (fun row => alE (aC f) (f 7) (f (fv 1 15) 0) (lwC f) (f 3) (f 4) (f 8) (f (fv 1 0) 0) row (f (fv 10 1) 0)) (f 11) (f (fv 10 1) 0) (f1_4 63)) (hh_8 : 0 ≤ f1_4 (fv 62 11) 0 ∧ f1_4 (fv 62 11) 0 < 8) (hh_9 : mOK (lwC f) g1_5) => ?_))
        have hf0 := hh_6
        have hf1 := hh_7
        have hf2 := hh_8
        have hf3 := hh_9
        refine ⟨show 0 ≤ (w : Int) ∧ w < 5 from by omega, ?_⟩
        exact k2 _ _ (by omega) hf0 hf1 hf2 hf3
      · refine ⟨show 0 ≤ (w : Int) ∧ w < 5 from by omega, ?_⟩
        exact k1 (by omega) (by assumption)
end C49
