section C35
variable {d : Nat} {f : iF} {g : iG} {Q : Option iv → iF → iG → Prop}
/-! ===== the class: one place is set ===== -/
theorem up_eq {h r : Int → Int} {q v : Int} (H : ∀ x, ¬ x = q → h x = r x) : up h q v = up r q v := by
  funext x
  by_cases e : x = q
  · rw [e, up_s, up_s]
  · rw [up_n e, up_n e, H x e]
theorem up_me {r : Int → Int} {q v : Int} (h : v = r q) : up r q v = r := by
  funext x
  by_cases e : x = q
  · rw [e, up_s, h]
  · rw [up_n e]
theorem rowB_up {n m q v : Int} {r : Int → Int} (h : rowB n m r) (hv : 0 ≤ v ∧ v ≤ 29) : rowB n m (up r q v) := by
  refine ⟨h.1, fun x h0 h1 => ?_⟩
  by_cases e : x = q
  · rw [e, up_s]; exact hv
  · rw [up_n e]; exact h.2 x h0 h1
set_option maxRecDepth 100000 in
set_option maxHeartbeats 4000000 in
theorem k_sets {q9 : Int} (hd : 6 ≤ d) (hq9 : 0 ≤ q9 ∧ q9 < (f (fv 64 1) 0)) (hch : 0 ≤ (f 67 q9) ∧ (f 67 q9) ≤ 29 ∧ chP (aC f) (f 65 q9) (f 66) (q9 * 29) (f 67 q9) 29) (hnd : ∀ o, 0 ≤ o → o < 8 → 0 ≤ (f 69 o) ∧ (f 69 o) ≤ 99) (hmo2 : ∃ mo, (0 ≤ mo ∧ mo ≤ 99) ∧ (∀ fa, bnd fa (bdF (f (fv 1 15) 0) (f (fv 64 1) 0)) → payM fa (lwC f) ≤ mo) ∧ ∀ o, 0 ≤ o → o < 8 → (f 69 o) = ndI (f 68 o) mo) (hrw : rowB (f (fv 64 1) 0) 12 (f 65)) (hls : ∀ o, 0 ≤ o → o < 8 → 0 ≤ (f 68 o) ∧ (f 68 o) ≤ 99) (hhu : 0 ≤ (f (fv 62 11) 0) ∧ (f (fv 62 11) 0) < 8) (hcb : (coB f)) (hab : (abOK f)) (hl : (lC f)) (hA : lwask (f (fv 15 5) 0) (lwC f)) (hday : 0 ≤ (f (fv 1 15) 0) ∧ (f (fv 1 15) 0) ≤ 9999) (hmo : mOK (lwC f) g) (k0 : ∀ sg : Int, ∀ f1 : iF, ∀ g1 : iG, (f1 65 = up (f 65) q9 sg) → (0 ≤ sg ∧ sg < 29 ∧ ¬ sg = (f 65 q9) ∧ ¬ (f 65 q9) = 29) → (fdP (f 68) (aC f) (f 7) (f (fv 1 15) 0) (lwC f) (up (f 65) q9 sg) (f (fv 64 1) 0)) → (∀ t, 0 ≤ t → t < sg → ¬ t = (f 65 q9) → ¬ (f 65 q9) = 29 → ¬ fdP (f 68) (aC f) (f 7) (f (fv 1 15) 0) (lwC f) (up (f 65) q9 t) (f (fv 64 1) 0)) → (0 ≤ f1 (fv 62 11) 0 ∧ f1 (fv 62 11) 0 < 8) → (mOK (lwC f) g1) → Q (some (iI 1)) (mx [56, 57, 58, 65, 70, 71, fv 62 11] f f1) g1) (k1 : ∀ f1 : iF, ∀ g1 : iG, (f1 65 = (f 65)) → (∀ t, 0 ≤ t → t < 29 → ¬ t = (f 65 q9) → ¬ (f 65 q9) = 29 → ¬ fdP (f 68) (aC f) (f 7) (f (fv 1 15) 0) (lwC f) (up (f 65) q9 t) (f (fv 64 1) 0)) → (0 ≤ f1 (fv 62 11) 0 ∧ f1 (fv 62 11) 0 < 8) → (mOK (lwC f) g1) → Q (some (iI 0)) (mx [56, 57, 58, 65, 70, 71, fv 62 11] f f1) g1) : wq d 167 [iR 62, iI q9] f g Q := by
  obtain ⟨d, rfl⟩ : ∃ e, d = e + 1 := ⟨d - 1, by omega⟩
  refine i_meth [(15, 5)] (fun n j lv st f' g' => (j = 15 ∧ ∃ (wa9 : Int) (lk9 : Int) (k9 : Int) (f1 : iF) (g1 : iG), lv = [some (iR 62), some (iI q9), some (iI wa9), some (iI lk9), some (iI k9)] ∧ st = [] ∧ f' = (mx [56, 57, 58, 65, 70, 71, fv 62 11] f f1) ∧ g1 = g' ∧ (wa9 = f 65 q9) ∧ (0 ≤ k9 ∧ k9 ≤ f 67 q9) ∧ (∀ x, ¬ x = q9 → f1 65 x = f 65 x) ∧ (∀ o, 0 ≤ o → o < 8 → f1 70 o = hnI (aC f) (f 7) (up (f 65) q9 29) (f (fv 64 1) 0) o) ∧ (lk9 = sI (fun o => max 0 (f 69 o - f1 70 o)) 8) ∧ (0 ≤ f1 (fv 62 11) 0 ∧ f1 (fv 62 11) 0 < 8) ∧ (mOK (lwC f) g1) ∧ (∀ x, 0 ≤ x → x < k9 → ¬ fdP (f 68) (aC f) (f 7) (f (fv 1 15) 0) (lwC f) (up (f 65) q9 (f 66 (q9 * 29 + x))) (f (fv 64 1) 0)) ∧ (n : Int) = 32 - k9)) 40 (by omega) rfl rfl (fun n j lv st f' g' hn hI O J hO hF hB => ?_) (fun hvs hin O J hO hF => ?_)
  · obtain ⟨rfl, wa9, lk9, k9, f1, g1, rfl, rfl, rfl, rfl, hwa, hk, hR, hH, hlk, hh, hmo1, hz, hm⟩ := hI
    have hrw1 := hrw.1
    have hpr : ∀ x, 0 ≤ x → x < f 67 q9 → fdP (f 68) (aC f) (f 7) (f (fv 1 15) 0) (lwC f) (up (f 65) q9 (f 66 (q9 * 29 + x))) (f (fv 64 1) 0) → lk9 ≤ 1 ∧ (lk9 = 1 → aC f (f 66 (q9 * 29 + x)) = true ∧ f1 70 (f 7 (f 66 (q9 * 29 + x))) < f 69 (f 7 (f 66 (q9 * 29 + x)))) := by
      intro x x0 x1 hE
      obtain ⟨mo, hm0, hmb, hne⟩ := hmo2
      have hb := hch.2.2.1 x x0 x1
      exact prune aC_in (fun s s0 s1 => by have := hcb.2 s s0 s1; have := hcb.1; omega) hday.1 hq9 hrw.2 ⟨hb.1, by omega⟩ hm0.1 hmb hne hH hlk hE
    refine hO (k_choicesAt (by omega) (show 0 ≤ q9 ∧ q9 < 12 from by omega) ?_)
    refine ⟨fun (hh_1 : k9 < (f 67 q9)) => ?_, fun (hh_1 : ¬ k9 < (f 67 q9)) => ?_⟩
    · have hsb := hch.2.2.1 k9 (by omega) (by omega)
      refine ⟨fun (hh_2 : 1 < lk9) => ?_, fun (hh_2 : ¬ 1 < lk9) => ?_⟩
      · refine hO (k_put_rm (by omega) (show 0 ≤ q9 ∧ q9 < (f (fv 64 1) 0) from by omega) (show (f (fv 64 1) 0) ≤ 12 from by omega) ?_)
        refine ⟨show (0 : Int) = 0 ∨ 0 = 1 from by decide, ?_⟩
        have hnone : ∀ x, 0 ≤ x → x < f 67 q9 → ¬ fdP (f 68) (aC f) (f 7) (f (fv 1 15) 0) (lwC f) (up (f 65) q9 (f 66 (q9 * 29 + x))) (f (fv 64 1) 0) := by
          intro x x0 x1 hE
          first
          | exact hz x x0 (by omega) hE
          | (have := (hpr x x0 x1 hE).1; omega)
        have hk := k1 (wv f1 65 q9 wa9) g1 (by show wv f1 65 q9 wa9 65 = f 65; rw [wv_up, up_eq hR, up_me hwa]) (chP_none hch.2.2 hnone) hh hmo1
        rw [show mx [56, 57, 58, 65, 70, 71, fv 62 11] f (wv f1 65 q9 wa9) = (wv (mx [56, 57, 58, 65, 70, 71, fv 62 11] f f1) 65 q9 wa9) from ((mx_wv rfl rfl)).symm] at hk
        exact hk
      · refine Or.inl ⟨show inr (q9 * 29) from by constructor <;> omega, ?_⟩
        refine Or.inl ⟨show inr ((q9 * 29) + k9) from by constructor <;> omega, ?_⟩
        refine ⟨show 0 ≤ (((q9 * 29) + k9) : Int) ∧ ((q9 * 29) + k9) < 348 from by omega, ?_⟩
        refine ⟨fun (hh_3 : lk9 = 1) => ?_, fun (hh_3 : ¬ lk9 = 1) => ?_⟩
        · refine hO (k_isLack (by omega) (show (coB f) from hcb) (show (abOK f) from hab) (fun (hh_4 : (aC f) (f 66 ((q9 * 29) + k9)) = true ∧ (f1 70 (f 7 (f 66 ((q9 * 29) + k9)))) < (f 69 (f 7 (f 66 ((q9 * 29) + k9))))) => ?_) (fun (hh_5 : ¬ ((aC f) (f 66 ((q9 * 29) + k9)) = true ∧ (f1 70 (f 7 (f 66 ((q9 * 29) + k9)))) < (f 69 (f 7 (f 66 ((q9 * 29) + k9)))))) => ?_))
          · refine ⟨fun h => absurd (show (1 : Int) = 0 from h) (by decide), fun _ => ?_⟩
            refine hO (k_put_rm (by omega) (show 0 ≤ q9 ∧ q9 < (f (fv 64 1) 0) from by omega) (show (f (fv 64 1) 0) ≤ 12 from by omega) ?_)
            have hwr : wv f1 65 q9 (f 66 (q9 * 29 + k9)) 65 = up (f 65) q9 (f 66 (q9 * 29 + k9)) := by rw [wv_up, up_eq hR]
            have hwr2 : wv (mx [56, 57, 58, 65, 70, 71, fv 62 11] f f1) 65 q9 (f 66 (q9 * 29 + k9)) 65 = up (f 65) q9 (f 66 (q9 * 29 + k9)) := by rw [wv_up]; exact up_eq (fun x hx => hR x hx)
            have hrw9 : rowB (f (fv 64 1) 0) 12 (wv f1 65 q9 (f 66 (q9 * 29 + k9)) 65) := by rw [hwr]; exact rowB_up hrw ⟨hsb.1, by omega⟩
            refine hO (k_feeds (by omega) (show rowB (f (fv 64 1) 0) 12 ((wv (mx [56, 57, 58, 65, 70, 71, fv 62 11] f f1) 65 q9 (f 66 ((q9 * 29) + k9))) 65) from hrw9) (show ∀ o, 0 ≤ o → o < 8 → 0 ≤ (f 68 o) ∧ (f 68 o) ≤ 99 from hls) (show 0 ≤ (f1 (fv 62 11) 0) ∧ (f1 (fv 62 11) 0) < 8 from hh) (show (coB f) from hcb) (show (abOK f) from hab) (show (lC f) from hl) (show lwask (f (fv 15 5) 0) (lwC f) from hA) (show 0 ≤ (f (fv 1 15) 0) ∧ (f (fv 1 15) 0) ≤ 9999 from hday) (show mOK (lwC f) g1 from hmo1) (fun f1_6 g1_7 (hh_8 : ∀ o, 0 ≤ o → o < 8 → (f 68 o) ≤ enI (aC f) (f 7) (f (fv 1 15) 0) (lwC f) ((wv (mx [56, 57, 58, 65, 70, 71, fv 62 11] f f1) 65 q9 (f 66 ((q9 * 29) + k9))) 65) (f (fv 64 1) 0) o) (hh_9 : 0 ≤ f1_6 (fv 62 11) 0 ∧ f1_6 (fv 62 11) 0 < 8) (hh_10 : mOK (lwC f) g1_7) => ?_) (fun f1_11 g1_12 (hh_13 : ¬ ∀ o, 0 ≤ o → o < 8 → (f 68 o) ≤ enI (aC f) (f 7) (f (fv 1 15) 0) (lwC f) ((wv (mx [56, 57, 58, 65, 70, 71, fv 62 11] f f1) 65 q9 (f 66 ((q9 * 29) + k9))) 65) (f (fv 64 1) 0) o) (hh_14 : 0 ≤ f1_11 (fv 62 11) 0 ∧ f1_11 (fv 62 11) 0 < 8) (hh_15 : mOK (lwC f) g1_12) => ?_))
            · have hfd : fdP (f 68) (aC f) (f 7) (f (fv 1 15) 0) (lwC f) (up (f 65) q9 (f 66 (q9 * 29 + k9))) (f (fv 64 1) 0) := by have q := hh_8; rw [hwr2] at q; exact q
              have hh9 := hh_9
              have hmo9 := hh_10
              refine ⟨fun h => absurd (show (1 : Int) = 0 from h) (by decide), fun _ => ?_⟩
              refine ⟨show (1 : Int) = 0 ∨ 1 = 1 from by decide, ?_⟩
              have hk := k0 (f 66 (q9 * 29 + k9)) (mx [56, 57, 58, 71, fv 62 11] (wv f1 65 q9 (f 66 ((q9 * 29) + k9))) f1_6) g1_7 (by show wv f1 65 q9 _ 65 = _; exact hwr) ⟨hsb.1, hsb.2.1, hsb.2.2⟩ hfd (chP_first hch.2.2 ⟨by omega, by omega⟩ hz) hh9 hmo9
              rw [show mx [56, 57, 58, 65, 70, 71, fv 62 11] f (mx [56, 57, 58, 71, fv 62 11] (wv f1 65 q9 (f 66 ((q9 * 29) + k9))) f1_6) = (mx [56, 57, 58, 71, fv 62 11] (wv (mx [56, 57, 58, 65, 70, 71, fv 62 11] f f1) 65 q9 (f 66 ((q9 * 29) + k9))) f1_6) from ((mx_mx rfl (mx_wv rfl rfl))).symm] at hk
              exact hk
            · have hfd : ¬ fdP (f 68) (aC f) (f 7) (f (fv 1 15) 0) (lwC f) (up (f 65) q9 (f 66 (q9 * 29 + k9))) (f (fv 64 1) 0) := by have q := hh_13; rw [hwr2] at q; exact q
              have hh9 := hh_14
              have hmo9 := hh_15
              refine ⟨fun _ => ?_, fun h => absurd (show (0 : Int) = 0 from by decide) h⟩
              refine ⟨show inr (k9 + 1) from by constructor <;> omega, ?_⟩
              refine hB (32 - (k9 + 1) : Int).toNat ?_ ⟨rfl, wa9, lk9, (k9 + 1), (mx [56, 57, 58, 71, fv 62 11] (wv f1 65 q9 (f 66 ((q9 * 29) + k9))) f1_11), g1_12, rfl, rfl, (mx_mx rfl (mx_wv rfl rfl)), rfl, ?_, ?_, ?_, ?_, ?_, ?_, ?_, ?_, ?_⟩
              · omega
              · exact hwa
              · omega
              · first | exact hR | exact fun x hx => by rw [← hR x hx]; exact wv_k hx
              · exact hH
              · exact hlk
              · first | exact hh9 | exact hh
              · first | exact hmo9 | exact hmo1
              · intro x h0 h1
                by_cases e : x = k9
                · rw [e]
                  intro hE
                  first
                  | exact hfd hE
                  | exact hnl ((hpr k9 (by omega) (by omega) hE).2 (by omega))
                · exact hz x h0 (by omega)
              · omega
          · have hnl := hh_5
            refine ⟨fun _ => ?_, fun h => absurd (show (0 : Int) = 0 from by decide) h⟩
            refine ⟨show inr (k9 + 1) from by constructor <;> omega, ?_⟩
            refine hB (32 - (k9 + 1) : Int).toNat ?_ ⟨rfl, wa9, lk9, (k9 + 1), f1, g1, rfl, rfl, rfl, rfl, ?_, ?_, ?_, ?_, ?_, ?_, ?_, ?_, ?_⟩
            · omega
            · exact hwa
            · omega
            · first | exact hR | exact fun x hx => by rw [← hR x hx]; exact wv_k hx
            · exact hH
            · exact hlk
            · first | exact hh9 | exact hh
            · first | exact hmo9 | exact hmo1
            · intro x h0 h1
              by_cases e : x = k9
              · rw [e]
                intro hE
                first
                | exact hfd hE
                | exact hnl ((hpr k9 (by omega) (by omega) hE).2 (by omega))
              · exact hz x h0 (by omega)
            · omega
        · refine hO (k_put_rm (by omega) (show 0 ≤ q9 ∧ q9 < (f (fv 64 1) 0) from by omega) (show (f (fv 64 1) 0) ≤ 12 from by omega) ?_)
          have hwr : wv f1 65 q9 (f 66 (q9 * 29 + k9)) 65 = up (f 65) q9 (f 66 (q9 * 29 + k9)) := by rw [wv_up, up_eq hR]
          have hwr2 : wv (mx [56, 57, 58, 65, 70, 71, fv 62 11] f f1) 65 q9 (f 66 (q9 * 29 + k9)) 65 = up (f 65) q9 (f 66 (q9 * 29 + k9)) := by rw [wv_up]; exact up_eq (fun x hx => hR x hx)
          have hrw9 : rowB (f (fv 64 1) 0) 12 (wv f1 65 q9 (f 66 (q9 * 29 + k9)) 65) := by rw [hwr]; exact rowB_up hrw ⟨hsb.1, by omega⟩
          refine hO (k_feeds (by omega) (show rowB (f (fv 64 1) 0) 12 ((wv (mx [56, 57, 58, 65, 70, 71, fv 62 11] f f1) 65 q9 (f 66 ((q9 * 29) + k9))) 65) from hrw9) (show ∀ o, 0 ≤ o → o < 8 → 0 ≤ (f 68 o) ∧ (f 68 o) ≤ 99 from hls) (show 0 ≤ (f1 (fv 62 11) 0) ∧ (f1 (fv 62 11) 0) < 8 from hh) (show (coB f) from hcb) (show (abOK f) from hab) (show (lC f) from hl) (show lwask (f (fv 15 5) 0) (lwC f) from hA) (show 0 ≤ (f (fv 1 15) 0) ∧ (f (fv 1 15) 0) ≤ 9999 from hday) (show mOK (lwC f) g1 from hmo1) (fun f1_16 g1_17 (hh_18 : ∀ o, 0 ≤ o → o < 8 → (f 68 o) ≤ enI (aC f) (f 7) (f (fv 1 15) 0) (lwC f) ((wv (mx [56, 57, 58, 65, 70, 71, fv 62 11] f f1) 65 q9 (f 66 ((q9 * 29) + k9))) 65) (f (fv 64 1) 0) o) (hh_19 : 0 ≤ f1_16 (fv 62 11) 0 ∧ f1_16 (fv 62 11) 0 < 8) (hh_20 : mOK (lwC f) g1_17) => ?_) (fun f1_21 g1_22 (hh_23 : ¬ ∀ o, 0 ≤ o → o < 8 → (f 68 o) ≤ enI (aC f) (f 7) (f (fv 1 15) 0) (lwC f) ((wv (mx [56, 57, 58, 65, 70, 71, fv 62 11] f f1) 65 q9 (f 66 ((q9 * 29) + k9))) 65) (f (fv 64 1) 0) o) (hh_24 : 0 ≤ f1_21 (fv 62 11) 0 ∧ f1_21 (fv 62 11) 0 < 8) (hh_25 : mOK (lwC f) g1_22) => ?_))
          · have hfd : fdP (f 68) (aC f) (f 7) (f (fv 1 15) 0) (lwC f) (up (f 65) q9 (f 66 (q9 * 29 + k9))) (f (fv 64 1) 0) := by have q := hh_18; rw [hwr2] at q; exact q
            have hh9 := hh_19
            have hmo9 := hh_20
            refine ⟨fun h => absurd (show (1 : Int) = 0 from h) (by decide), fun _ => ?_⟩
            refine ⟨show (1 : Int) = 0 ∨ 1 = 1 from by decide, ?_⟩
            have hk := k0 (f 66 (q9 * 29 + k9)) (mx [56, 57, 58, 71, fv 62 11] (wv f1 65 q9 (f 66 ((q9 * 29) + k9))) f1_16) g1_17 (by show wv f1 65 q9 _ 65 = _; exact hwr) ⟨hsb.1, hsb.2.1, hsb.2.2⟩ hfd (chP_first hch.2.2 ⟨by omega, by omega⟩ hz) hh9 hmo9
            rw [show mx [56, 57, 58, 65, 70, 71, fv 62 11] f (mx [56, 57, 58, 71, fv 62 11] (wv f1 65 q9 (f 66 ((q9 * 29) + k9))) f1_16) = (mx [56, 57, 58, 71, fv 62 11] (wv (mx [56, 57, 58, 65, 70, 71, fv 62 11] f f1) 65 q9 (f 66 ((q9 * 29) + k9))) f1_16) from ((mx_mx rfl (mx_wv rfl rfl))).symm] at hk
            exact hk
          · have hfd : ¬ fdP (f 68) (aC f) (f 7) (f (fv 1 15) 0) (lwC f) (up (f 65) q9 (f 66 (q9 * 29 + k9))) (f (fv 64 1) 0) := by have q := hh_23; rw [hwr2] at q; exact q
            have hh9 := hh_24
            have hmo9 := hh_25
            refine ⟨fun _ => ?_, fun h => absurd (show (0 : Int) = 0 from by decide) h⟩
            refine ⟨show inr (k9 + 1) from by constructor <;> omega, ?_⟩
            refine hB (32 - (k9 + 1) : Int).toNat ?_ ⟨rfl, wa9, lk9, (k9 + 1), (mx [56, 57, 58, 71, fv 62 11] (wv f1 65 q9 (f 66 ((q9 * 29) + k9))) f1_21), g1_22, rfl, rfl, (mx_mx rfl (mx_wv rfl rfl)), rfl, ?_, ?_, ?_, ?_, ?_, ?_, ?_, ?_, ?_⟩
            · omega
            · exact hwa
            · omega
            · first | exact hR | exact fun x hx => by rw [← hR x hx]; exact wv_k hx
            · exact hH
            · exact hlk
            · first | exact hh9 | exact hh
            · first | exact hmo9 | exact hmo1
            · intro x h0 h1
              by_cases e : x = k9
              · rw [e]
                intro hE
                first
                | exact hfd hE
                | exact hnl ((hpr k9 (by omega) (by omega) hE).2 (by omega))
              · exact hz x h0 (by omega)
            · omega
    · refine hO (k_put_rm (by omega) (show 0 ≤ q9 ∧ q9 < (f (fv 64 1) 0) from by omega) (show (f (fv 64 1) 0) ≤ 12 from by omega) ?_)
      refine ⟨show (0 : Int) = 0 ∨ 0 = 1 from by decide, ?_⟩
      have hnone : ∀ x, 0 ≤ x → x < f 67 q9 → ¬ fdP (f 68) (aC f) (f 7) (f (fv 1 15) 0) (lwC f) (up (f 65) q9 (f 66 (q9 * 29 + x))) (f (fv 64 1) 0) := by
        intro x x0 x1 hE
        first
        | exact hz x x0 (by omega) hE
        | (have := (hpr x x0 x1 hE).1; omega)
      have hk := k1 (wv f1 65 q9 wa9) g1 (by show wv f1 65 q9 wa9 65 = f 65; rw [wv_up, up_eq hR, up_me hwa]) (chP_none hch.2.2 hnone) hh hmo1
      rw [show mx [56, 57, 58, 65, 70, 71, fv 62 11] f (wv f1 65 q9 wa9) = (wv (mx [56, 57, 58, 65, 70, 71, fv 62 11] f f1) 65 q9 wa9) from ((mx_wv rfl rfl)).symm] at hk
      exact hk
  · have hrw1 := hrw.1
    refine hO (k_get_rm (by omega) (show 0 ≤ q9 ∧ q9 < 12 from by omega) ?_)
    refine hO (k_put_rm (by omega) (show 0 ≤ q9 ∧ q9 < (f (fv 64 1) 0) from by omega) (show (f (fv 64 1) 0) ≤ 12 from by omega) ?_)
    have hrw8 : rowB (f (fv 64 1) 0) 12 (wv f 65 q9 29 65) := by rw [wv_up]; exact rowB_up hrw (by decide)
    refine hO (k_lack (by omega) (show rowB (f (fv 64 1) 0) 12 ((wv f 65 q9 29) 65) from hrw8) (show (coB f) from hcb) (show (abOK f) from hab) (show ∀ o, 0 ≤ o → o < 8 → 0 ≤ (f 69 o) ∧ (f 69 o) ≤ 99 from hnd) (fun f1_26 (hh_27 : ∀ o, 0 ≤ o → o < 8 → f1_26 70 o = cI (fun i => (aC f) ((wv f 65 q9 29) 65 i) && decide ((f 7) ((wv f 65 q9 29) 65 i) = o)) (f (fv 64 1) 0)) => ?_))
    have hH0 := hh_27
    refine hF (32 - 0 : Int).toNat ?_ ⟨rfl, (f 65 q9), sI (fun o => max 0 ((f 69 o) - f1_26 70 o)) 8, 0, (mx [70] (wv f 65 q9 29) f1_26), g, rfl, rfl, (mx_mx rfl (mx_wv rfl mx_rf)), rfl, ?_, ?_, ?_, ?_, ?_, ?_, ?_, ?_, ?_⟩
    · omega
    · rfl
    · omega
    · exact fun x hx => wv_k hx
    · intro o h0 h1
      have q := hH0 o h0 h1
      rw [wv_up] at q
      exact q
    · rfl
    · exact hhu
    · exact hmo
    · intro x h0 h1; omega
    · omega
end C35
