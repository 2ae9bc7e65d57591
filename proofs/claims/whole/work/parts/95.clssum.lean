section C39
variable {d : Nat} {f : iF} {g : iG} {Q : Option iv → iF → iG → Prop}
/-! ===== the class: a sum is read ===== -/
def okx (x : Int) : Prop := 20 ≤ x ∨ (6 ≤ x ∧ x ≤ 8)
set_option maxRecDepth 100000 in
set_option maxHeartbeats 4000000 in
theorem k_sum (hd : 3 ≤ d) (hrd : (rdC f)) (hsz : (f (fv 42 3) 0) ≤ ((f 47 (f (fv 41 6) 0)))) (k0 : ∀ f1 : iF, ( (rdC (mx [43, fv 42 3, fv 42 5, fv 41 6, fv 41 7] f f1))) → (∀ x K W, okx x → Rch (kdC f) (nxC f) (1, x :: K, ((f 47 (f (fv 41 6) 0))), (sl (f 43) 0 (f (fv 42 3) 0)), W) (6, x :: K, ((f 47 (f1 (fv 41 6) 0))), (sl (f1 43) 0 (f1 (fv 42 3) 0)), W)) → (f1 (fv 42 3) 0 - ((f 47 (f1 (fv 41 6) 0))) ≤ (f (fv 42 3) 0) - ((f 47 (f (fv 41 6) 0)))) → (((f 47 (f (fv 41 6) 0))) < ((f 47 (f1 (fv 41 6) 0)))) → Q (some (iI 1)) (mx [43, fv 42 3, fv 42 5, fv 41 6, fv 41 7] f f1) g) (k1 : ∀ f1 : iF, (∀ x K W, okx x → flt (kdC f) (nxC f) (1, x :: K, ((f 47 (f (fv 41 6) 0))), (sl (f 43) 0 (f (fv 42 3) 0)), W) (f1 (fv 41 1) 0) (f1 (fv 41 2) 0)) → Q (some (iI 0)) (mx [43, fv 42 3, fv 42 5, fv 41 1, fv 41 2, fv 41 6, fv 41 7] f f1) g) : wq d 135 [iR 41] f g Q := by
  obtain ⟨d, rfl⟩ : ∃ e, d = e + 1 := ⟨d - 1, by omega⟩
  refine i_meth [(4, 3), (14, 4)] (fun n j lv st f' g' => (j = 4 ∧ ∃ (jn9 : Int) (nn9 : Int) (f1 : iF), lv = [some (iR 41), some (iI jn9), some (iI nn9)] ∧ st = [] ∧ f' = (mx [43, fv 42 3, fv 42 5, fv 41 6, fv 41 7] f f1) ∧ g = g' ∧ (rdC (mx [43, fv 42 3, fv 42 5, fv 41 6, fv 41 7] f f1)) ∧ (jn9 = 0 ∨ jn9 = -10 ∨ jn9 = -11) ∧ (∀ x K W, okx x → Rch (kdC f) (nxC f) (1, x :: K, f 47 (f (fv 41 6) 0), sl (f 43) 0 (f (fv 42 3) 0), W) (1, jk jn9 (x :: K), f 47 (f1 (fv 41 6) 0), sl (f1 43) 0 (f1 (fv 42 3) 0), W)) ∧ ((jn9 = 0 → f1 (fv 42 3) 0 - (f 47 (f1 (fv 41 6) 0)) ≤ f (fv 42 3) 0 - (f 47 (f (fv 41 6) 0))) ∧ (¬ jn9 = 0 → f1 (fv 42 3) 0 + 1 - (f 47 (f1 (fv 41 6) 0)) ≤ f (fv 42 3) 0 - (f 47 (f (fv 41 6) 0)))) ∧ (0 ≤ nn9 ∧ 2 * nn9 + 0 ≤ f 47 (f1 (fv 41 6) 0) - f 47 (f (fv 41 6) 0)) ∧ (n : Int) = 2 * (401 - (f 47 (f1 (fv 41 6) 0))) + 1) ∨ (j = 14 ∧ ∃ (jn9 : Int) (nn9 : Int) (mm9 : Int) (f1 : iF), lv = [some (iR 41), some (iI jn9), some (iI nn9), some (iI mm9)] ∧ st = [] ∧ f' = (mx [43, fv 42 3, fv 42 5, fv 41 6, fv 41 7] f f1) ∧ g = g' ∧ (rdC (mx [43, fv 42 3, fv 42 5, fv 41 6, fv 41 7] f f1)) ∧ (jn9 = 0 ∨ jn9 = -10 ∨ jn9 = -11) ∧ (∀ x K W, okx x → Rch (kdC f) (nxC f) (1, x :: K, f 47 (f (fv 41 6) 0), sl (f 43) 0 (f (fv 42 3) 0), W) (2, jk jn9 (x :: K), f 47 (f1 (fv 41 6) 0), sl (f1 43) 0 (f1 (fv 42 3) 0), W)) ∧ ((jn9 = 0 → f1 (fv 42 3) 0 - (f 47 (f1 (fv 41 6) 0)) ≤ f (fv 42 3) 0 - (f 47 (f (fv 41 6) 0))) ∧ (¬ jn9 = 0 → f1 (fv 42 3) 0 + 1 - (f 47 (f1 (fv 41 6) 0)) ≤ f (fv 42 3) 0 - (f 47 (f (fv 41 6) 0)))) ∧ (0 ≤ nn9 ∧ 2 * nn9 + 2 * mm9 + 1 ≤ f 47 (f1 (fv 41 6) 0) - f 47 (f (fv 41 6) 0)) ∧ (0 ≤ mm9) ∧ (n : Int) = 2 * (401 - (f 47 (f1 (fv 41 6) 0))))) 810 (by omega) rfl rfl (fun n j lv st f' g' hn hI O J hO hF hB => ?_) (fun hvs hin O J hO hF => ?_)
  · rcases hI with hI | hI
    · obtain ⟨rfl, jn9, nn9, f1, rfl, rfl, rfl, rfl, hrd1, hj, hR, hz, hn, hm⟩ := hI
      have hb0 := rdC_b hrd
      have hb1 : 0 ≤ f 47 (f1 (fv 41 6) 0) ∧ f 47 (f1 (fv 41 6) 0) ≤ f (fv 39 1) 0 ∧ f (fv 39 1) 0 ≤ 400 ∧ 0 ≤ f1 (fv 41 6) 0 ∧ f1 (fv 41 6) 0 ≤ 400 ∧ 0 ≤ f1 (fv 42 3) 0 := rdC_b hrd1
      have hkd : f1 (fv 41 7) 0 = kdC f (f 47 (f1 (fv 41 6) 0)) := rdC_k hrd1
      refine ⟨fun (hh_1 : nn9 < 400) => ?_, fun (hh_1 : ¬ nn9 < 400) => ?_⟩
      · refine hO (k_unit (by omega) (show (rdC (mx [43, fv 42 3, fv 42 5, fv 41 6, fv 41 7] f f1)) from hrd1) (show (f1 (fv 42 3) 0) ≤ ((f 47 (f1 (fv 41 6) 0))) from by omega) (fun f1_2 (hh_3 : isu ((kdC f) ((f 47 (f1 (fv 41 6) 0))))) (hh_4 :  (rdC (mx [43, fv 42 3, fv 42 5, fv 41 6, fv 41 7] (mx [43, fv 42 3, fv 42 5, fv 41 6, fv 41 7] f f1) f1_2))) (hh_5 : ((f 47 (f1_2 (fv 41 6) 0))) = (nxC f) ((f 47 (f1 (fv 41 6) 0)))) (hh_6 : ((f 47 (f1 (fv 41 6) 0))) < (nxC f) ((f 47 (f1 (fv 41 6) 0)))) (hh_7 : (sl (f1_2 43) 0 (f1_2 (fv 42 3) 0)) = (sl (f1 43) 0 (f1 (fv 42 3) 0)) ++ [unt ((kdC f) ((f 47 (f1 (fv 41 6) 0))))]) (hh_8 : f1_2 (fv 42 3) 0 = (f1 (fv 42 3) 0) + 1) => ?_) (fun (hh_9 : ¬ isu ((kdC f) ((f 47 (f1 (fv 41 6) 0))))) => ?_))
        · have hu1 := hh_3
          have hu2 := hh_4
          have hu3 := hh_5
          have hu4 := hh_6
          have hu5 := hh_7
          have hu6 := hh_8
          have hub : f 47 (f1_2 (fv 41 6) 0) ≤ f (fv 39 1) 0 := (rdC_b hh_4).2.1
          refine ⟨fun h => absurd (show (1 : Int) = 0 from h) (by decide), fun _ => ?_⟩
          have q2 : f 47 ((mx [43, fv 42 3, fv 42 5, fv 41 6, fv 41 7] f1 f1_2) (fv 41 6) 0) = _ := hu3
          refine hF (2 * (401 - (f 47 ((mx [43, fv 42 3, fv 42 5, fv 41 6, fv 41 7] f1 f1_2) (fv 41 6) 0))) : Int).toNat ?_ (Or.inr (⟨rfl, jn9, nn9, 0, (mx [43, fv 42 3, fv 42 5, fv 41 6, fv 41 7] f1 f1_2), rfl, rfl, (mx_mx rfl rfl), rfl, ?_, ?_, ?_, ?_, ?_, ?_, ?_⟩))
          · omega
          · exact hu2
          · omega
          · intro x K W hx
            rw [show sl ((mx [43, fv 42 3, fv 42 5, fv 41 6, fv 41 7] f1 f1_2) 43) 0 ((mx [43, fv 42 3, fv 42 5, fv 41 6, fv 41 7] f1 f1_2) (fv 42 3) 0) = _ from hu5, show f 47 ((mx [43, fv 42 3, fv 42 5, fv 41 6, fv 41 7] f1 f1_2) (fv 41 6) 0) = _ from hu3]
            exact r_t (hR x K W hx) (j_u hu1)
          · have q1 : (mx [43, fv 42 3, fv 42 5, fv 41 6, fv 41 7] f1 f1_2) (fv 42 3) 0 = _ := hu6
            have q2 : f 47 ((mx [43, fv 42 3, fv 42 5, fv 41 6, fv 41 7] f1 f1_2) (fv 41 6) 0) = _ := hu3
            refine ⟨fun h => ?_, fun h => ?_⟩ <;> omega
          · first
            | (have q2 : f 47 ((mx [43, fv 42 3, fv 42 5, fv 41 6, fv 41 7] f1 f1_2) (fv 41 6) 0) = _ := hu3; omega)
          · omega
          · omega
        · have hu1 := hh_9
          refine ⟨fun _ => ?_, fun h => absurd (show (0 : Int) = 0 from by decide) h⟩
          refine ⟨show (0 : Int) = 0 ∨ 0 = 1 from by decide, ?_⟩
          have hk := k1 ((wv (wv (mx [43, fv 42 3, fv 42 5, fv 41 6, fv 41 7] f f1) (fv 41 1) 0 1) (fv 41 2) 0 ((f 47 (f1 (fv 41 6) 0))))) (fun x K W hx => by exact flt_r (hR x K W hx) (j_uf hu1))
          rw [show mx [43, fv 42 3, fv 42 5, fv 41 1, fv 41 2, fv 41 6, fv 41 7] f (wv (wv (mx [43, fv 42 3, fv 42 5, fv 41 6, fv 41 7] f f1) (fv 41 1) 0 1) (fv 41 2) 0 ((f 47 (f1 (fv 41 6) 0)))) = (wv (wv (mx [43, fv 42 3, fv 42 5, fv 41 6, fv 41 7] f f1) (fv 41 1) 0 1) (fv 41 2) 0 ((f 47 (f1 (fv 41 6) 0)))) from ((mx_wv rfl (mx_wv rfl (mx_mx rfl mx_rf)))).symm] at hk
          exact hk
      · refine ⟨show (1 : Int) = 0 ∨ 1 = 1 from by decide, ?_⟩
        exfalso; omega
    · obtain ⟨rfl, jn9, nn9, mm9, f1, rfl, rfl, rfl, rfl, hrd1, hj, hR, hz, hn, hm, hm⟩ := hI
      have hb0 := rdC_b hrd
      have hb1 : 0 ≤ f 47 (f1 (fv 41 6) 0) ∧ f 47 (f1 (fv 41 6) 0) ≤ f (fv 39 1) 0 ∧ f (fv 39 1) 0 ≤ 400 ∧ 0 ≤ f1 (fv 41 6) 0 ∧ f1 (fv 41 6) 0 ≤ 400 ∧ 0 ≤ f1 (fv 42 3) 0 := rdC_b hrd1
      have hkd : f1 (fv 41 7) 0 = kdC f (f 47 (f1 (fv 41 6) 0)) := rdC_k hrd1
      refine ⟨fun (hh_10 : mm9 < 400) => ?_, fun (hh_10 : ¬ mm9 < 400) => ?_⟩
      · refine ⟨fun (hh_11 : f1 (fv 41 7) 0 = 42) => ?_, fun (hh_11 : ¬ f1 (fv 41 7) 0 = 42) => ?_⟩
        · refine ⟨fun _ => ?_, fun h => absurd hh_11 h⟩
          refine hO (k_step (by omega) (show (rdC (mx [43, fv 42 3, fv 42 5, fv 41 6, fv 41 7] f f1)) from hrd1) (show ¬ (f1 (fv 41 7) 0) = 0 from by omega) (fun f1_12 (hh_13 :  (rdC (mx [fv 41 6, fv 41 7] (mx [43, fv 42 3, fv 42 5, fv 41 6, fv 41 7] f f1) f1_12))) (hh_14 : ((f 47 (f1_12 (fv 41 6) 0))) = (nxC f) ((f 47 (f1 (fv 41 6) 0)))) (hh_15 : ((f 47 (f1 (fv 41 6) 0))) < (nxC f) ((f 47 (f1 (fv 41 6) 0)))) => ?_))
          have hs1 := hh_13
          have hs2 := hh_14
          have hs3 := hh_15
          have hsb : f 47 (f1_12 (fv 41 6) 0) ≤ f (fv 39 1) 0 := (rdC_b hh_13).2.1
          refine ⟨fun h => absurd (show (1 : Int) = 0 from h) (by decide), fun _ => ?_⟩
          refine hO (k_unit (by omega) (show (rdC (mx [fv 41 6, fv 41 7] (mx [43, fv 42 3, fv 42 5, fv 41 6, fv 41 7] f f1) f1_12)) from hs1) (show (f1 (fv 42 3) 0) ≤ ((f 47 (f1_12 (fv 41 6) 0))) from by omega) (fun f1_16 (hh_17 : isu ((kdC f) ((f 47 (f1_12 (fv 41 6) 0))))) (hh_18 :  (rdC (mx [43, fv 42 3, fv 42 5, fv 41 6, fv 41 7] (mx [fv 41 6, fv 41 7] (mx [43, fv 42 3, fv 42 5, fv 41 6, fv 41 7] f f1) f1_12) f1_16))) (hh_19 : ((f 47 (f1_16 (fv 41 6) 0))) = (nxC f) ((f 47 (f1_12 (fv 41 6) 0)))) (hh_20 : ((f 47 (f1_12 (fv 41 6) 0))) < (nxC f) ((f 47 (f1_12 (fv 41 6) 0)))) (hh_21 : (sl (f1_16 43) 0 (f1_16 (fv 42 3) 0)) = (sl (f1 43) 0 (f1 (fv 42 3) 0)) ++ [unt ((kdC f) ((f 47 (f1_12 (fv 41 6) 0))))]) (hh_22 : f1_16 (fv 42 3) 0 = (f1 (fv 42 3) 0) + 1) => ?_) (fun (hh_23 : ¬ isu ((kdC f) ((f 47 (f1_12 (fv 41 6) 0))))) => ?_))
          · have hu1 := hh_17
            have hu2 := hh_18
            have hu3 := hh_19
            have hu4 := hh_20
            have hu5 := hh_21
            have hu6 := hh_22
            have hub : f 47 (f1_16 (fv 41 6) 0) ≤ f (fv 39 1) 0 := (rdC_b hh_18).2.1
            refine ⟨fun h => absurd (show (1 : Int) = 0 from h) (by decide), fun _ => ?_⟩
            refine ⟨fun h => absurd (show (1 : Int) = 0 from h) (by decide), fun _ => ?_⟩
            refine hO (k_emit (by omega) (show (rdC (mx [43, fv 42 3, fv 42 5, fv 41 6, fv 41 7] (mx [fv 41 6, fv 41 7] (mx [43, fv 42 3, fv 42 5, fv 41 6, fv 41 7] f f1) f1_12) f1_16)) from (by first | exact hu2 | exact hu2)) (show (f1_16 (fv 42 3) 0) < 400 from by omega) (show -9 ≤ (-12) → (-12) < 0 → bit (f1_16 (fv 42 5) 0) (-1 - (-12)) = true from fun h _ => absurd h (by decide)) (fun f1_24 (hh_25 :  (rdC (mx [43, fv 42 3] (mx [43, fv 42 3, fv 42 5, fv 41 6, fv 41 7] (mx [fv 41 6, fv 41 7] (mx [43, fv 42 3, fv 42 5, fv 41 6, fv 41 7] f f1) f1_12) f1_16) f1_24))) (hh_26 : (sl (f1_24 43) 0 (f1_24 (fv 42 3) 0)) = (sl (f1_16 43) 0 (f1_16 (fv 42 3) 0)) ++ [(-12)]) (hh_27 : f1_24 (fv 42 3) 0 = (f1_16 (fv 42 3) 0) + 1) => ?_))
            have hem1 := hh_25
            have hem2 := hh_26
            have hem3 := hh_27
            refine ⟨show inr (mm9 + 1) from by constructor <;> omega, ?_⟩
            have q2 : f 47 ((mx [43, fv 42 3] (mx [43, fv 42 3, fv 42 5, fv 41 6, fv 41 7] (mx [fv 41 6, fv 41 7] f1 f1_12) f1_16) f1_24) (fv 41 6) 0) = _ := hu3
            refine hB (2 * (401 - (f 47 ((mx [43, fv 42 3] (mx [43, fv 42 3, fv 42 5, fv 41 6, fv 41 7] (mx [fv 41 6, fv 41 7] f1 f1_12) f1_16) f1_24) (fv 41 6) 0))) : Int).toNat ?_ (Or.inr (⟨rfl, jn9, nn9, (mm9 + 1), (mx [43, fv 42 3] (mx [43, fv 42 3, fv 42 5, fv 41 6, fv 41 7] (mx [fv 41 6, fv 41 7] f1 f1_12) f1_16) f1_24), rfl, rfl, (mx_mx rfl (mx_mx rfl (mx_mx rfl rfl))), rfl, ?_, ?_, ?_, ?_, ?_, ?_, ?_⟩))
            · omega
            · exact hem1
            · omega
            · intro x K W hx
              rw [show sl ((mx [43, fv 42 3] (mx [43, fv 42 3, fv 42 5, fv 41 6, fv 41 7] (mx [fv 41 6, fv 41 7] f1 f1_12) f1_16) f1_24) 43) 0 ((mx [43, fv 42 3] (mx [43, fv 42 3, fv 42 5, fv 41 6, fv 41 7] (mx [fv 41 6, fv 41 7] f1 f1_12) f1_16) f1_24) (fv 42 3) 0) = _ from hem2]
              first
              | (rw [hu5, show f 47 ((mx [43, fv 42 3] (mx [43, fv 42 3, fv 42 5, fv 41 6, fv 41 7] (mx [fv 41 6, fv 41 7] f1 f1_12) f1_16) f1_24) (fv 41 6) 0) = _ from hu3]; exact r_t (hR x K W hx) (r_t (j_m hx (by omega) hs2) (r_t (j_u hu1) q_2x)))
              | (rw [hu5, show f 47 ((mx [43, fv 42 3] (mx [43, fv 42 3, fv 42 5, fv 41 6, fv 41 7] (mx [fv 41 6, fv 41 7] f1 f1_12) f1_16) f1_24) (fv 41 6) 0) = _ from hu3]; exact r_t (hR x K W hx) (r_t (j_p hx (by omega) hs2) (r_t (q_3n hu1) q_2d)))
            · have q1 : (mx [43, fv 42 3] (mx [43, fv 42 3, fv 42 5, fv 41 6, fv 41 7] (mx [fv 41 6, fv 41 7] f1 f1_12) f1_16) f1_24) (fv 42 3) 0 = _ := hem3
              have q2 : f 47 ((mx [43, fv 42 3] (mx [43, fv 42 3, fv 42 5, fv 41 6, fv 41 7] (mx [fv 41 6, fv 41 7] f1 f1_12) f1_16) f1_24) (fv 41 6) 0) = _ := hu3
              refine ⟨fun h => ?_, fun h => ?_⟩ <;> omega
            · first
              | (have q2 : f 47 ((mx [43, fv 42 3] (mx [43, fv 42 3, fv 42 5, fv 41 6, fv 41 7] (mx [fv 41 6, fv 41 7] f1 f1_12) f1_16) f1_24) (fv 41 6) 0) = _ := hu3; omega)
            · omega
            · omega
          · have hu1 := hh_23
            refine ⟨fun _ => ?_, fun h => absurd (show (0 : Int) = 0 from by decide) h⟩
            refine ⟨show (0 : Int) = 0 ∨ 0 = 1 from by decide, ?_⟩
            have hk := k1 ((wv (wv (mx [fv 41 6, fv 41 7] (mx [43, fv 42 3, fv 42 5, fv 41 6, fv 41 7] f f1) f1_12) (fv 41 1) 0 1) (fv 41 2) 0 ((f 47 (f1_12 (fv 41 6) 0))))) (fun x K W hx => by first | exact flt_r (r_t (hR x K W hx) (j_m hx (by omega) hs2)) (j_uf hu1) | exact flt_r (r_t (hR x K W hx) (j_p hx (by omega) hs2)) (flt_0 (q_3z hu1)) | exact flt_r (r_t (hR x K W hx) (j_p hx (by omega) hs2)) (flt_0 (q_3f hu1)))
            rw [show mx [43, fv 42 3, fv 42 5, fv 41 1, fv 41 2, fv 41 6, fv 41 7] f (wv (wv (mx [fv 41 6, fv 41 7] (mx [43, fv 42 3, fv 42 5, fv 41 6, fv 41 7] f f1) f1_12) (fv 41 1) 0 1) (fv 41 2) 0 ((f 47 (f1_12 (fv 41 6) 0)))) = (wv (wv (mx [fv 41 6, fv 41 7] (mx [43, fv 42 3, fv 42 5, fv 41 6, fv 41 7] f f1) f1_12) (fv 41 1) 0 1) (fv 41 2) 0 ((f 47 (f1_12 (fv 41 6) 0)))) from ((mx_wv rfl (mx_wv rfl (mx_mx rfl (mx_mx rfl mx_rf))))).symm] at hk
            exact hk
        · refine ⟨fun (hh_28 : f1 (fv 41 7) 0 = 47) => ?_, fun (hh_28 : ¬ f1 (fv 41 7) 0 = 47) => ?_⟩
          · refine ⟨fun h => absurd h hh_11, fun _ => ?_⟩
            refine hO (k_step (by omega) (show (rdC (mx [43, fv 42 3, fv 42 5, fv 41 6, fv 41 7] f f1)) from hrd1) (show ¬ (f1 (fv 41 7) 0) = 0 from by omega) (fun f1_29 (hh_30 :  (rdC (mx [fv 41 6, fv 41 7] (mx [43, fv 42 3, fv 42 5, fv 41 6, fv 41 7] f f1) f1_29))) (hh_31 : ((f 47 (f1_29 (fv 41 6) 0))) = (nxC f) ((f 47 (f1 (fv 41 6) 0)))) (hh_32 : ((f 47 (f1 (fv 41 6) 0))) < (nxC f) ((f 47 (f1 (fv 41 6) 0)))) => ?_))
            have hs1 := hh_30
            have hs2 := hh_31
            have hs3 := hh_32
            have hsb : f 47 (f1_29 (fv 41 6) 0) ≤ f (fv 39 1) 0 := (rdC_b hh_30).2.1
            refine ⟨fun _ => ?_, fun h => absurd (show (0 : Int) = 0 from by decide) h⟩
            refine hO (k_divisor (by omega) (show (rdC (mx [fv 41 6, fv 41 7] (mx [43, fv 42 3, fv 42 5, fv 41 6, fv 41 7] f f1) f1_29)) from hs1) (show (f1 (fv 42 3) 0) ≤ ((f 47 (f1_29 (fv 41 6) 0))) from by omega) (fun f1_33 (hh_34 : 1000 < (kdC f) ((f 47 (f1_29 (fv 41 6) 0)))) (hh_35 :  (rdC (mx [43, fv 42 3, fv 42 5, fv 41 6, fv 41 7] (mx [fv 41 6, fv 41 7] (mx [43, fv 42 3, fv 42 5, fv 41 6, fv 41 7] f f1) f1_29) f1_33))) (hh_36 : ((f 47 (f1_33 (fv 41 6) 0))) = (nxC f) ((f 47 (f1_29 (fv 41 6) 0)))) (hh_37 : ((f 47 (f1_29 (fv 41 6) 0))) < (nxC f) ((f 47 (f1_29 (fv 41 6) 0)))) (hh_38 : (sl (f1_33 43) 0 (f1_33 (fv 42 3) 0)) = (sl (f1 43) 0 (f1 (fv 42 3) 0)) ++ [(kdC f) ((f 47 (f1_29 (fv 41 6) 0))) - 1000]) (hh_39 : f1_33 (fv 42 3) 0 = (f1 (fv 42 3) 0) + 1) => ?_) (fun (hh_40 : (kdC f) ((f 47 (f1_29 (fv 41 6) 0))) = 1000) => ?_) (fun (hh_41 : (kdC f) ((f 47 (f1_29 (fv 41 6) 0))) < 1000) => ?_))
            · have hu1 := hh_34
              have hu2 := hh_35
              have hu3 := hh_36
              have hu4 := hh_37
              have hu5 := hh_38
              have hu6 := hh_39
              have hub : f 47 (f1_33 (fv 41 6) 0) ≤ f (fv 39 1) 0 := (rdC_b hh_35).2.1
              refine ⟨fun h => absurd (show (1 : Int) = 0 from h) (by decide), fun _ => ?_⟩
              refine ⟨fun _ => ?_, fun h => absurd (show (0 : Int) = 0 from by decide) h⟩
              refine hO (k_emit (by omega) (show (rdC (mx [43, fv 42 3, fv 42 5, fv 41 6, fv 41 7] (mx [fv 41 6, fv 41 7] (mx [43, fv 42 3, fv 42 5, fv 41 6, fv 41 7] f f1) f1_29) f1_33)) from (by first | exact hu2 | exact hu2)) (show (f1_33 (fv 42 3) 0) < 400 from by omega) (show -9 ≤ (-13) → (-13) < 0 → bit (f1_33 (fv 42 5) 0) (-1 - (-13)) = true from fun h _ => absurd h (by decide)) (fun f1_42 (hh_43 :  (rdC (mx [43, fv 42 3] (mx [43, fv 42 3, fv 42 5, fv 41 6, fv 41 7] (mx [fv 41 6, fv 41 7] (mx [43, fv 42 3, fv 42 5, fv 41 6, fv 41 7] f f1) f1_29) f1_33) f1_42))) (hh_44 : (sl (f1_42 43) 0 (f1_42 (fv 42 3) 0)) = (sl (f1_33 43) 0 (f1_33 (fv 42 3) 0)) ++ [(-13)]) (hh_45 : f1_42 (fv 42 3) 0 = (f1_33 (fv 42 3) 0) + 1) => ?_))
              have hem1 := hh_43
              have hem2 := hh_44
              have hem3 := hh_45
              refine ⟨show inr (mm9 + 1) from by constructor <;> omega, ?_⟩
              have q2 : f 47 ((mx [43, fv 42 3] (mx [43, fv 42 3, fv 42 5, fv 41 6, fv 41 7] (mx [fv 41 6, fv 41 7] f1 f1_29) f1_33) f1_42) (fv 41 6) 0) = _ := hu3
              refine hB (2 * (401 - (f 47 ((mx [43, fv 42 3] (mx [43, fv 42 3, fv 42 5, fv 41 6, fv 41 7] (mx [fv 41 6, fv 41 7] f1 f1_29) f1_33) f1_42) (fv 41 6) 0))) : Int).toNat ?_ (Or.inr (⟨rfl, jn9, nn9, (mm9 + 1), (mx [43, fv 42 3] (mx [43, fv 42 3, fv 42 5, fv 41 6, fv 41 7] (mx [fv 41 6, fv 41 7] f1 f1_29) f1_33) f1_42), rfl, rfl, (mx_mx rfl (mx_mx rfl (mx_mx rfl rfl))), rfl, ?_, ?_, ?_, ?_, ?_, ?_, ?_⟩))
              · omega
              · exact hem1
              · omega
              · intro x K W hx
                rw [show sl ((mx [43, fv 42 3] (mx [43, fv 42 3, fv 42 5, fv 41 6, fv 41 7] (mx [fv 41 6, fv 41 7] f1 f1_29) f1_33) f1_42) 43) 0 ((mx [43, fv 42 3] (mx [43, fv 42 3, fv 42 5, fv 41 6, fv 41 7] (mx [fv 41 6, fv 41 7] f1 f1_29) f1_33) f1_42) (fv 42 3) 0) = _ from hem2]
                first
                | (rw [hu5, show f 47 ((mx [43, fv 42 3] (mx [43, fv 42 3, fv 42 5, fv 41 6, fv 41 7] (mx [fv 41 6, fv 41 7] f1 f1_29) f1_33) f1_42) (fv 41 6) 0) = _ from hu3]; exact r_t (hR x K W hx) (r_t (j_m hx (by omega) hs2) (r_t (j_u hu1) q_2x)))
                | (rw [hu5, show f 47 ((mx [43, fv 42 3] (mx [43, fv 42 3, fv 42 5, fv 41 6, fv 41 7] (mx [fv 41 6, fv 41 7] f1 f1_29) f1_33) f1_42) (fv 41 6) 0) = _ from hu3]; exact r_t (hR x K W hx) (r_t (j_p hx (by omega) hs2) (r_t (q_3n hu1) q_2d)))
              · have q1 : (mx [43, fv 42 3] (mx [43, fv 42 3, fv 42 5, fv 41 6, fv 41 7] (mx [fv 41 6, fv 41 7] f1 f1_29) f1_33) f1_42) (fv 42 3) 0 = _ := hem3
                have q2 : f 47 ((mx [43, fv 42 3] (mx [43, fv 42 3, fv 42 5, fv 41 6, fv 41 7] (mx [fv 41 6, fv 41 7] f1 f1_29) f1_33) f1_42) (fv 41 6) 0) = _ := hu3
                refine ⟨fun h => ?_, fun h => ?_⟩ <;> omega
              · first
                | (have q2 : f 47 ((mx [43, fv 42 3] (mx [43, fv 42 3, fv 42 5, fv 41 6, fv 41 7] (mx [fv 41 6, fv 41 7] f1 f1_29) f1_33) f1_42) (fv 41 6) 0) = _ := hu3; omega)
              · omega
              · omega
            · have hu1 := hh_40
              refine ⟨fun _ => ?_, fun h => absurd (show (0 : Int) = 0 from by decide) h⟩
              refine ⟨show (0 : Int) = 0 ∨ 0 = 1 from by decide, ?_⟩
              have hk := k1 ((wv (wv (mx [fv 41 6, fv 41 7] (mx [43, fv 42 3, fv 42 5, fv 41 6, fv 41 7] f f1) f1_29) (fv 41 1) 0 2) (fv 41 2) 0 ((f 47 (f1_29 (fv 41 6) 0))))) (fun x K W hx => by first | exact flt_r (r_t (hR x K W hx) (j_m hx (by omega) hs2)) (j_uf hu1) | exact flt_r (r_t (hR x K W hx) (j_p hx (by omega) hs2)) (flt_0 (q_3z hu1)) | exact flt_r (r_t (hR x K W hx) (j_p hx (by omega) hs2)) (flt_0 (q_3f hu1)))
              rw [show mx [43, fv 42 3, fv 42 5, fv 41 1, fv 41 2, fv 41 6, fv 41 7] f (wv (wv (mx [fv 41 6, fv 41 7] (mx [43, fv 42 3, fv 42 5, fv 41 6, fv 41 7] f f1) f1_29) (fv 41 1) 0 2) (fv 41 2) 0 ((f 47 (f1_29 (fv 41 6) 0)))) = (wv (wv (mx [fv 41 6, fv 41 7] (mx [43, fv 42 3, fv 42 5, fv 41 6, fv 41 7] f f1) f1_29) (fv 41 1) 0 2) (fv 41 2) 0 ((f 47 (f1_29 (fv 41 6) 0)))) from ((mx_wv rfl (mx_wv rfl (mx_mx rfl (mx_mx rfl mx_rf))))).symm] at hk
              exact hk
            · have hu1 := hh_41
              refine ⟨fun _ => ?_, fun h => absurd (show (0 : Int) = 0 from by decide) h⟩
              refine ⟨show (0 : Int) = 0 ∨ 0 = 1 from by decide, ?_⟩
              have hk := k1 ((wv (wv (mx [fv 41 6, fv 41 7] (mx [43, fv 42 3, fv 42 5, fv 41 6, fv 41 7] f f1) f1_29) (fv 41 1) 0 1) (fv 41 2) 0 ((f 47 (f1_29 (fv 41 6) 0))))) (fun x K W hx => by first | exact flt_r (r_t (hR x K W hx) (j_m hx (by omega) hs2)) (j_uf hu1) | exact flt_r (r_t (hR x K W hx) (j_p hx (by omega) hs2)) (flt_0 (q_3z hu1)) | exact flt_r (r_t (hR x K W hx) (j_p hx (by omega) hs2)) (flt_0 (q_3f hu1)))
              rw [show mx [43, fv 42 3, fv 42 5, fv 41 1, fv 41 2, fv 41 6, fv 41 7] f (wv (wv (mx [fv 41 6, fv 41 7] (mx [43, fv 42 3, fv 42 5, fv 41 6, fv 41 7] f f1) f1_29) (fv 41 1) 0 1) (fv 41 2) 0 ((f 47 (f1_29 (fv 41 6) 0)))) = (wv (wv (mx [fv 41 6, fv 41 7] (mx [43, fv 42 3, fv 42 5, fv 41 6, fv 41 7] f f1) f1_29) (fv 41 1) 0 1) (fv 41 2) 0 ((f 47 (f1_29 (fv 41 6) 0)))) from ((mx_wv rfl (mx_wv rfl (mx_mx rfl (mx_mx rfl mx_rf))))).symm] at hk
              exact hk
          · refine ⟨fun (hh_46 : jn9 = 0) => ?_, fun (hh_46 : ¬ jn9 = 0) => ?_⟩
            · refine ⟨fun (hh_47 : f1 (fv 41 7) 0 = 43) => ?_, fun (hh_47 : ¬ f1 (fv 41 7) 0 = 43) => ?_⟩
              · refine ⟨fun _ => ?_, fun h => absurd hh_47 h⟩
                refine hO (k_step (by omega) (show (rdC (mx [43, fv 42 3, fv 42 5, fv 41 6, fv 41 7] f f1)) from by first | exact hem1 | exact hrd1) (show ¬ (f1 (fv 41 7) 0) = 0 from by omega) (fun f1_48 (hh_49 :  (rdC (mx [fv 41 6, fv 41 7] (mx [43, fv 42 3, fv 42 5, fv 41 6, fv 41 7] f f1) f1_48))) (hh_50 : ((f 47 (f1_48 (fv 41 6) 0))) = (nxC f) ((f 47 (f1 (fv 41 6) 0)))) (hh_51 : ((f 47 (f1 (fv 41 6) 0))) < (nxC f) ((f 47 (f1 (fv 41 6) 0)))) => ?_))
                have ht1 := hh_49
                have ht2 := hh_50
                have ht3 := hh_51
                have htb : f 47 (f1_48 (fv 41 6) 0) ≤ f (fv 39 1) 0 := (rdC_b hh_49).2.1
                refine ⟨show inr (nn9 + 1) from by constructor <;> omega, ?_⟩
                have q2 : f 47 ((mx [fv 41 6, fv 41 7] f1 f1_48) (fv 41 6) 0) = _ := ht2
                refine hB (2 * (401 - (f 47 ((mx [fv 41 6, fv 41 7] f1 f1_48) (fv 41 6) 0))) + 1 : Int).toNat ?_ (Or.inl ⟨rfl, (-10), (nn9 + 1), (mx [fv 41 6, fv 41 7] f1 f1_48), rfl, rfl, (mx_mx rfl rfl), rfl, ?_, ?_, ?_, ?_, ?_, ?_⟩)
                · omega
                · exact ht1
                · omega
                · intro x K W hx
                  rw [show f 47 ((mx [fv 41 6, fv 41 7] f1 f1_48) (fv 41 6) 0) = _ from ht2]
                  first
                  | (rw [show sl ((mx [fv 41 6, fv 41 7] f1 f1_48) 43) 0 ((mx [fv 41 6, fv 41 7] f1 f1_48) (fv 42 3) 0) = _ from hem2]; exact r_t (hR x K W hx) (r_t (j_e hx (by omega) (by omega) (by omega)) (j_j (by omega) rfl)))
                  | exact r_t (hR x K W hx) (r_t (by rw [show jn9 = 0 by omega]; exact j_e0 hx (by omega) (by omega)) (j_j (by omega) rfl))
                · have q2 : f 47 ((mx [fv 41 6, fv 41 7] f1 f1_48) (fv 41 6) 0) = _ := ht2
                  have q1 : (¬ jn9 = 0 ∧ (mx [fv 41 6, fv 41 7] f1 f1_48) (fv 42 3) 0 = f1 (fv 42 3) 0 + 1) ∨ (jn9 = 0 ∧ (mx [fv 41 6, fv 41 7] f1 f1_48) (fv 42 3) 0 = f1 (fv 42 3) 0) := by first | exact Or.inl ⟨by omega, hem3⟩ | exact Or.inr ⟨by omega, rfl⟩
                  refine ⟨fun h => ?_, fun h => ?_⟩ <;> omega
                · first
                  | (have q2 : f 47 ((mx [fv 41 6, fv 41 7] f1 f1_48) (fv 41 6) 0) = _ := ht2; omega)
                · omega
              · refine ⟨fun (hh_52 : f1 (fv 41 7) 0 = 45) => ?_, fun (hh_52 : ¬ f1 (fv 41 7) 0 = 45) => ?_⟩
                · refine ⟨fun h => absurd h hh_47, fun _ => ?_⟩
                  refine hO (k_step (by omega) (show (rdC (mx [43, fv 42 3, fv 42 5, fv 41 6, fv 41 7] f f1)) from by first | exact hem1 | exact hrd1) (show ¬ (f1 (fv 41 7) 0) = 0 from by omega) (fun f1_53 (hh_54 :  (rdC (mx [fv 41 6, fv 41 7] (mx [43, fv 42 3, fv 42 5, fv 41 6, fv 41 7] f f1) f1_53))) (hh_55 : ((f 47 (f1_53 (fv 41 6) 0))) = (nxC f) ((f 47 (f1 (fv 41 6) 0)))) (hh_56 : ((f 47 (f1 (fv 41 6) 0))) < (nxC f) ((f 47 (f1 (fv 41 6) 0)))) => ?_))
                  have ht1 := hh_54
                  have ht2 := hh_55
                  have ht3 := hh_56
                  have htb : f 47 (f1_53 (fv 41 6) 0) ≤ f (fv 39 1) 0 := (rdC_b hh_54).2.1
                  refine ⟨show inr (nn9 + 1) from by constructor <;> omega, ?_⟩
                  have q2 : f 47 ((mx [fv 41 6, fv 41 7] f1 f1_53) (fv 41 6) 0) = _ := ht2
                  refine hB (2 * (401 - (f 47 ((mx [fv 41 6, fv 41 7] f1 f1_53) (fv 41 6) 0))) + 1 : Int).toNat ?_ (Or.inl ⟨rfl, (-11), (nn9 + 1), (mx [fv 41 6, fv 41 7] f1 f1_53), rfl, rfl, (mx_mx rfl rfl), rfl, ?_, ?_, ?_, ?_, ?_, ?_⟩)
                  · omega
                  · exact ht1
                  · omega
                  · intro x K W hx
                    rw [show f 47 ((mx [fv 41 6, fv 41 7] f1 f1_53) (fv 41 6) 0) = _ from ht2]
                    first
                    | (rw [show sl ((mx [fv 41 6, fv 41 7] f1 f1_53) 43) 0 ((mx [fv 41 6, fv 41 7] f1 f1_53) (fv 42 3) 0) = _ from hem2]; exact r_t (hR x K W hx) (r_t (j_e hx (by omega) (by omega) (by omega)) (j_j (by omega) rfl)))
                    | exact r_t (hR x K W hx) (r_t (by rw [show jn9 = 0 by omega]; exact j_e0 hx (by omega) (by omega)) (j_j (by omega) rfl))
                  · have q2 : f 47 ((mx [fv 41 6, fv 41 7] f1 f1_53) (fv 41 6) 0) = _ := ht2
                    have q1 : (¬ jn9 = 0 ∧ (mx [fv 41 6, fv 41 7] f1 f1_53) (fv 42 3) 0 = f1 (fv 42 3) 0 + 1) ∨ (jn9 = 0 ∧ (mx [fv 41 6, fv 41 7] f1 f1_53) (fv 42 3) 0 = f1 (fv 42 3) 0) := by first | exact Or.inl ⟨by omega, hem3⟩ | exact Or.inr ⟨by omega, rfl⟩
                    refine ⟨fun h => ?_, fun h => ?_⟩ <;> omega
                  · first
                    | (have q2 : f 47 ((mx [fv 41 6, fv 41 7] f1 f1_53) (fv 41 6) 0) = _ := ht2; omega)
                  · omega
                · refine ⟨show (1 : Int) = 0 ∨ 1 = 1 from by decide, ?_⟩
                  first
                  | (have hRR : ∀ x K W, okx x → Rch (kdC f) (nxC f) (1, x :: K, f 47 (f (fv 41 6) 0), sl (f 43) 0 (f (fv 42 3) 0), W) (5, x :: K, f 47 (f1 (fv 41 6) 0), sl (f1 43) 0 (f1 (fv 42 3) 0), W) := (fun x K W hx => by rw [show sl (f1 43) 0 (f1 (fv 42 3) 0) = _ from hem2]; exact r_t (hR x K W hx) (j_e hx (by omega) (by omega) (by omega))))
                  | (have hRR : ∀ x K W, okx x → Rch (kdC f) (nxC f) (1, x :: K, f 47 (f (fv 41 6) 0), sl (f 43) 0 (f (fv 42 3) 0), W) (5, x :: K, f 47 (f1 (fv 41 6) 0), sl (f1 43) 0 (f1 (fv 42 3) 0), W) := (fun x K W hx => r_t (hR x K W hx) (by rw [show jn9 = 0 by omega]; exact j_e0 hx (by omega) (by omega))))
                  have hk := k0 (f1) (by first | exact hem1 | exact hrd1) (fun x K W hx => r_t (hRR x K W hx) (q_5e (by omega) (by omega))) (by first | (have q : f1 (fv 42 3) 0 = _ := hem3; show f1 (fv 42 3) 0 - f 47 (f1 (fv 41 6) 0) ≤ _; omega) | (show f1 (fv 42 3) 0 - _ ≤ _; omega)) (by show f 47 (f (fv 41 6) 0) < f 47 (f1 (fv 41 6) 0); omega)
                  exact hk
            · refine hO (k_emit (by omega) (show (rdC (mx [43, fv 42 3, fv 42 5, fv 41 6, fv 41 7] f f1)) from hrd1) (show (f1 (fv 42 3) 0) < 400 from by omega) (show -9 ≤ jn9 → jn9 < 0 → bit (f1 (fv 42 5) 0) (-1 - jn9) = true from fun h _ => by omega) (fun f1_57 (hh_58 :  (rdC (mx [43, fv 42 3] (mx [43, fv 42 3, fv 42 5, fv 41 6, fv 41 7] f f1) f1_57))) (hh_59 : (sl (f1_57 43) 0 (f1_57 (fv 42 3) 0)) = (sl (f1 43) 0 (f1 (fv 42 3) 0)) ++ [jn9]) (hh_60 : f1_57 (fv 42 3) 0 = (f1 (fv 42 3) 0) + 1) => ?_))
              have hem1 := hh_58
              have hem2 := hh_59
              have hem3 := hh_60
              refine ⟨fun (hh_61 : f1 (fv 41 7) 0 = 43) => ?_, fun (hh_61 : ¬ f1 (fv 41 7) 0 = 43) => ?_⟩
              · refine ⟨fun _ => ?_, fun h => absurd hh_61 h⟩
                refine hO (k_step (by omega) (show (rdC (mx [43, fv 42 3] (mx [43, fv 42 3, fv 42 5, fv 41 6, fv 41 7] f f1) f1_57)) from by first | exact hem1 | exact hrd1) (show ¬ (f1 (fv 41 7) 0) = 0 from by omega) (fun f1_62 (hh_63 :  (rdC (mx [fv 41 6, fv 41 7] (mx [43, fv 42 3] (mx [43, fv 42 3, fv 42 5, fv 41 6, fv 41 7] f f1) f1_57) f1_62))) (hh_64 : ((f 47 (f1_62 (fv 41 6) 0))) = (nxC f) ((f 47 (f1 (fv 41 6) 0)))) (hh_65 : ((f 47 (f1 (fv 41 6) 0))) < (nxC f) ((f 47 (f1 (fv 41 6) 0)))) => ?_))
                have ht1 := hh_63
                have ht2 := hh_64
                have ht3 := hh_65
                have htb : f 47 (f1_62 (fv 41 6) 0) ≤ f (fv 39 1) 0 := (rdC_b hh_63).2.1
                refine ⟨show inr (nn9 + 1) from by constructor <;> omega, ?_⟩
                have q2 : f 47 ((mx [fv 41 6, fv 41 7] (mx [43, fv 42 3] f1 f1_57) f1_62) (fv 41 6) 0) = _ := ht2
                refine hB (2 * (401 - (f 47 ((mx [fv 41 6, fv 41 7] (mx [43, fv 42 3] f1 f1_57) f1_62) (fv 41 6) 0))) + 1 : Int).toNat ?_ (Or.inl ⟨rfl, (-10), (nn9 + 1), (mx [fv 41 6, fv 41 7] (mx [43, fv 42 3] f1 f1_57) f1_62), rfl, rfl, (mx_mx rfl (mx_mx rfl rfl)), rfl, ?_, ?_, ?_, ?_, ?_, ?_⟩)
                · omega
                · exact ht1
                · omega
                · intro x K W hx
                  rw [show f 47 ((mx [fv 41 6, fv 41 7] (mx [43, fv 42 3] f1 f1_57) f1_62) (fv 41 6) 0) = _ from ht2]
                  first
                  | (rw [show sl ((mx [fv 41 6, fv 41 7] (mx [43, fv 42 3] f1 f1_57) f1_62) 43) 0 ((mx [fv 41 6, fv 41 7] (mx [43, fv 42 3] f1 f1_57) f1_62) (fv 42 3) 0) = _ from hem2]; exact r_t (hR x K W hx) (r_t (j_e hx (by omega) (by omega) (by omega)) (j_j (by omega) rfl)))
                  | exact r_t (hR x K W hx) (r_t (by rw [show jn9 = 0 by omega]; exact j_e0 hx (by omega) (by omega)) (j_j (by omega) rfl))
                · have q2 : f 47 ((mx [fv 41 6, fv 41 7] (mx [43, fv 42 3] f1 f1_57) f1_62) (fv 41 6) 0) = _ := ht2
                  have q1 : (¬ jn9 = 0 ∧ (mx [fv 41 6, fv 41 7] (mx [43, fv 42 3] f1 f1_57) f1_62) (fv 42 3) 0 = f1 (fv 42 3) 0 + 1) ∨ (jn9 = 0 ∧ (mx [fv 41 6, fv 41 7] (mx [43, fv 42 3] f1 f1_57) f1_62) (fv 42 3) 0 = f1 (fv 42 3) 0) := by first | exact Or.inl ⟨by omega, hem3⟩ | exact Or.inr ⟨by omega, rfl⟩
                  refine ⟨fun h => ?_, fun h => ?_⟩ <;> omega
                · first
                  | (have q2 : f 47 ((mx [fv 41 6, fv 41 7] (mx [43, fv 42 3] f1 f1_57) f1_62) (fv 41 6) 0) = _ := ht2; omega)
                · omega
              · refine ⟨fun (hh_66 : f1 (fv 41 7) 0 = 45) => ?_, fun (hh_66 : ¬ f1 (fv 41 7) 0 = 45) => ?_⟩
                · refine ⟨fun h => absurd h hh_61, fun _ => ?_⟩
                  refine hO (k_step (by omega) (show (rdC (mx [43, fv 42 3] (mx [43, fv 42 3, fv 42 5, fv 41 6, fv 41 7] f f1) f1_57)) from by first | exact hem1 | exact hrd1) (show ¬ (f1 (fv 41 7) 0) = 0 from by omega) (fun f1_67 (hh_68 :  (rdC (mx [fv 41 6, fv 41 7] (mx [43, fv 42 3] (mx [43, fv 42 3, fv 42 5, fv 41 6, fv 41 7] f f1) f1_57) f1_67))) (hh_69 : ((f 47 (f1_67 (fv 41 6) 0))) = (nxC f) ((f 47 (f1 (fv 41 6) 0)))) (hh_70 : ((f 47 (f1 (fv 41 6) 0))) < (nxC f) ((f 47 (f1 (fv 41 6) 0)))) => ?_))
                  have ht1 := hh_68
                  have ht2 := hh_69
                  have ht3 := hh_70
                  have htb : f 47 (f1_67 (fv 41 6) 0) ≤ f (fv 39 1) 0 := (rdC_b hh_68).2.1
                  refine ⟨show inr (nn9 + 1) from by constructor <;> omega, ?_⟩
                  have q2 : f 47 ((mx [fv 41 6, fv 41 7] (mx [43, fv 42 3] f1 f1_57) f1_67) (fv 41 6) 0) = _ := ht2
                  refine hB (2 * (401 - (f 47 ((mx [fv 41 6, fv 41 7] (mx [43, fv 42 3] f1 f1_57) f1_67) (fv 41 6) 0))) + 1 : Int).toNat ?_ (Or.inl ⟨rfl, (-11), (nn9 + 1), (mx [fv 41 6, fv 41 7] (mx [43, fv 42 3] f1 f1_57) f1_67), rfl, rfl, (mx_mx rfl (mx_mx rfl rfl)), rfl, ?_, ?_, ?_, ?_, ?_, ?_⟩)
                  · omega
                  · exact ht1
                  · omega
                  · intro x K W hx
                    rw [show f 47 ((mx [fv 41 6, fv 41 7] (mx [43, fv 42 3] f1 f1_57) f1_67) (fv 41 6) 0) = _ from ht2]
                    first
                    | (rw [show sl ((mx [fv 41 6, fv 41 7] (mx [43, fv 42 3] f1 f1_57) f1_67) 43) 0 ((mx [fv 41 6, fv 41 7] (mx [43, fv 42 3] f1 f1_57) f1_67) (fv 42 3) 0) = _ from hem2]; exact r_t (hR x K W hx) (r_t (j_e hx (by omega) (by omega) (by omega)) (j_j (by omega) rfl)))
                    | exact r_t (hR x K W hx) (r_t (by rw [show jn9 = 0 by omega]; exact j_e0 hx (by omega) (by omega)) (j_j (by omega) rfl))
                  · have q2 : f 47 ((mx [fv 41 6, fv 41 7] (mx [43, fv 42 3] f1 f1_57) f1_67) (fv 41 6) 0) = _ := ht2
                    have q1 : (¬ jn9 = 0 ∧ (mx [fv 41 6, fv 41 7] (mx [43, fv 42 3] f1 f1_57) f1_67) (fv 42 3) 0 = f1 (fv 42 3) 0 + 1) ∨ (jn9 = 0 ∧ (mx [fv 41 6, fv 41 7] (mx [43, fv 42 3] f1 f1_57) f1_67) (fv 42 3) 0 = f1 (fv 42 3) 0) := by first | exact Or.inl ⟨by omega, hem3⟩ | exact Or.inr ⟨by omega, rfl⟩
                    refine ⟨fun h => ?_, fun h => ?_⟩ <;> omega
                  · first
                    | (have q2 : f 47 ((mx [fv 41 6, fv 41 7] (mx [43, fv 42 3] f1 f1_57) f1_67) (fv 41 6) 0) = _ := ht2; omega)
                  · omega
                · refine ⟨show (1 : Int) = 0 ∨ 1 = 1 from by decide, ?_⟩
                  first
                  | (have hRR : ∀ x K W, okx x → Rch (kdC f) (nxC f) (1, x :: K, f 47 (f (fv 41 6) 0), sl (f 43) 0 (f (fv 42 3) 0), W) (5, x :: K, f 47 (f1 (fv 41 6) 0), sl ((mx [43, fv 42 3] f1 f1_57) 43) 0 ((mx [43, fv 42 3] f1 f1_57) (fv 42 3) 0), W) := (fun x K W hx => by rw [show sl ((mx [43, fv 42 3] f1 f1_57) 43) 0 ((mx [43, fv 42 3] f1 f1_57) (fv 42 3) 0) = _ from hem2]; exact r_t (hR x K W hx) (j_e hx (by omega) (by omega) (by omega))))
                  | (have hRR : ∀ x K W, okx x → Rch (kdC f) (nxC f) (1, x :: K, f 47 (f (fv 41 6) 0), sl (f 43) 0 (f (fv 42 3) 0), W) (5, x :: K, f 47 (f1 (fv 41 6) 0), sl ((mx [43, fv 42 3] f1 f1_57) 43) 0 ((mx [43, fv 42 3] f1 f1_57) (fv 42 3) 0), W) := (fun x K W hx => r_t (hR x K W hx) (by rw [show jn9 = 0 by omega]; exact j_e0 hx (by omega) (by omega))))
                  have hk := k0 ((mx [43, fv 42 3] f1 f1_57)) (by first | exact hem1 | exact hrd1) (fun x K W hx => r_t (hRR x K W hx) (q_5e (by omega) (by omega))) (by first | (have q : (mx [43, fv 42 3] f1 f1_57) (fv 42 3) 0 = _ := hem3; show (mx [43, fv 42 3] f1 f1_57) (fv 42 3) 0 - f 47 (f1 (fv 41 6) 0) ≤ _; omega) | (show f1 (fv 42 3) 0 - _ ≤ _; omega)) (by show f 47 (f (fv 41 6) 0) < f 47 (f1 (fv 41 6) 0); omega)
                  rw [show mx [43, fv 42 3, fv 42 5, fv 41 6, fv 41 7] f (mx [43, fv 42 3] f1 f1_57) = (mx [43, fv 42 3] (mx [43, fv 42 3, fv 42 5, fv 41 6, fv 41 7] f f1) f1_57) from ((mx_mx rfl rfl)).symm] at hk
                  exact hk
      · refine ⟨fun (hh_71 : jn9 = 0) => ?_, fun (hh_71 : ¬ jn9 = 0) => ?_⟩
        · refine ⟨fun (hh_72 : f1 (fv 41 7) 0 = 43) => ?_, fun (hh_72 : ¬ f1 (fv 41 7) 0 = 43) => ?_⟩
          · refine ⟨fun _ => ?_, fun h => absurd hh_72 h⟩
            refine hO (k_step (by omega) (show (rdC (mx [43, fv 42 3, fv 42 5, fv 41 6, fv 41 7] f f1)) from by first | exact hem1 | exact hrd1) (show ¬ (f1 (fv 41 7) 0) = 0 from by omega) (fun f1_73 (hh_74 :  (rdC (mx [fv 41 6, fv 41 7] (mx [43, fv 42 3, fv 42 5, fv 41 6, fv 41 7] f f1) f1_73))) (hh_75 : ((f 47 (f1_73 (fv 41 6) 0))) = (nxC f) ((f 47 (f1 (fv 41 6) 0)))) (hh_76 : ((f 47 (f1 (fv 41 6) 0))) < (nxC f) ((f 47 (f1 (fv 41 6) 0)))) => ?_))
            have ht1 := hh_74
            have ht2 := hh_75
            have ht3 := hh_76
            have htb : f 47 (f1_73 (fv 41 6) 0) ≤ f (fv 39 1) 0 := (rdC_b hh_74).2.1
            refine ⟨show inr (nn9 + 1) from by constructor <;> omega, ?_⟩
            have q2 : f 47 ((mx [fv 41 6, fv 41 7] f1 f1_73) (fv 41 6) 0) = _ := ht2
            refine hB (2 * (401 - (f 47 ((mx [fv 41 6, fv 41 7] f1 f1_73) (fv 41 6) 0))) + 1 : Int).toNat ?_ (Or.inl ⟨rfl, (-10), (nn9 + 1), (mx [fv 41 6, fv 41 7] f1 f1_73), rfl, rfl, (mx_mx rfl rfl), rfl, ?_, ?_, ?_, ?_, ?_, ?_⟩)
            · omega
            · exact ht1
            · omega
            · intro x K W hx
              rw [show f 47 ((mx [fv 41 6, fv 41 7] f1 f1_73) (fv 41 6) 0) = _ from ht2]
              first
              | (rw [show sl ((mx [fv 41 6, fv 41 7] f1 f1_73) 43) 0 ((mx [fv 41 6, fv 41 7] f1 f1_73) (fv 42 3) 0) = _ from hem2]; exact r_t (hR x K W hx) (r_t (j_e hx (by omega) (by omega) (by omega)) (j_j (by omega) rfl)))
              | exact r_t (hR x K W hx) (r_t (by rw [show jn9 = 0 by omega]; exact j_e0 hx (by omega) (by omega)) (j_j (by omega) rfl))
            · have q2 : f 47 ((mx [fv 41 6, fv 41 7] f1 f1_73) (fv 41 6) 0) = _ := ht2
              have q1 : (¬ jn9 = 0 ∧ (mx [fv 41 6, fv 41 7] f1 f1_73) (fv 42 3) 0 = f1 (fv 42 3) 0 + 1) ∨ (jn9 = 0 ∧ (mx [fv 41 6, fv 41 7] f1 f1_73) (fv 42 3) 0 = f1 (fv 42 3) 0) := by first | exact Or.inl ⟨by omega, hem3⟩ | exact Or.inr ⟨by omega, rfl⟩
              refine ⟨fun h => ?_, fun h => ?_⟩ <;> omega
            · first
              | (have q2 : f 47 ((mx [fv 41 6, fv 41 7] f1 f1_73) (fv 41 6) 0) = _ := ht2; omega)
            · omega
          · refine ⟨fun (hh_77 : f1 (fv 41 7) 0 = 45) => ?_, fun (hh_77 : ¬ f1 (fv 41 7) 0 = 45) => ?_⟩
            · refine ⟨fun h => absurd h hh_72, fun _ => ?_⟩
              refine hO (k_step (by omega) (show (rdC (mx [43, fv 42 3, fv 42 5, fv 41 6, fv 41 7] f f1)) from by first | exact hem1 | exact hrd1) (show ¬ (f1 (fv 41 7) 0) = 0 from by omega) (fun f1_78 (hh_79 :  (rdC (mx [fv 41 6, fv 41 7] (mx [43, fv 42 3, fv 42 5, fv 41 6, fv 41 7] f f1) f1_78))) (hh_80 : ((f 47 (f1_78 (fv 41 6) 0))) = (nxC f) ((f 47 (f1 (fv 41 6) 0)))) (hh_81 : ((f 47 (f1 (fv 41 6) 0))) < (nxC f) ((f 47 (f1 (fv 41 6) 0)))) => ?_))
              have ht1 := hh_79
              have ht2 := hh_80
              have ht3 := hh_81
              have htb : f 47 (f1_78 (fv 41 6) 0) ≤ f (fv 39 1) 0 := (rdC_b hh_79).2.1
              refine ⟨show inr (nn9 + 1) from by constructor <;> omega, ?_⟩
              have q2 : f 47 ((mx [fv 41 6, fv 41 7] f1 f1_78) (fv 41 6) 0) = _ := ht2
              refine hB (2 * (401 - (f 47 ((mx [fv 41 6, fv 41 7] f1 f1_78) (fv 41 6) 0))) + 1 : Int).toNat ?_ (Or.inl ⟨rfl, (-11), (nn9 + 1), (mx [fv 41 6, fv 41 7] f1 f1_78), rfl, rfl, (mx_mx rfl rfl), rfl, ?_, ?_, ?_, ?_, ?_, ?_⟩)
              · omega
              · exact ht1
              · omega
              · intro x K W hx
                rw [show f 47 ((mx [fv 41 6, fv 41 7] f1 f1_78) (fv 41 6) 0) = _ from ht2]
                first
                | (rw [show sl ((mx [fv 41 6, fv 41 7] f1 f1_78) 43) 0 ((mx [fv 41 6, fv 41 7] f1 f1_78) (fv 42 3) 0) = _ from hem2]; exact r_t (hR x K W hx) (r_t (j_e hx (by omega) (by omega) (by omega)) (j_j (by omega) rfl)))
                | exact r_t (hR x K W hx) (r_t (by rw [show jn9 = 0 by omega]; exact j_e0 hx (by omega) (by omega)) (j_j (by omega) rfl))
              · have q2 : f 47 ((mx [fv 41 6, fv 41 7] f1 f1_78) (fv 41 6) 0) = _ := ht2
                have q1 : (¬ jn9 = 0 ∧ (mx [fv 41 6, fv 41 7] f1 f1_78) (fv 42 3) 0 = f1 (fv 42 3) 0 + 1) ∨ (jn9 = 0 ∧ (mx [fv 41 6, fv 41 7] f1 f1_78) (fv 42 3) 0 = f1 (fv 42 3) 0) := by first | exact Or.inl ⟨by omega, hem3⟩ | exact Or.inr ⟨by omega, rfl⟩
                refine ⟨fun h => ?_, fun h => ?_⟩ <;> omega
              · first
                | (have q2 : f 47 ((mx [fv 41 6, fv 41 7] f1 f1_78) (fv 41 6) 0) = _ := ht2; omega)
              · omega
            · refine ⟨show (1 : Int) = 0 ∨ 1 = 1 from by decide, ?_⟩
              first
              | (have hRR : ∀ x K W, okx x → Rch (kdC f) (nxC f) (1, x :: K, f 47 (f (fv 41 6) 0), sl (f 43) 0 (f (fv 42 3) 0), W) (5, x :: K, f 47 (f1 (fv 41 6) 0), sl (f1 43) 0 (f1 (fv 42 3) 0), W) := (fun x K W hx => by rw [show sl (f1 43) 0 (f1 (fv 42 3) 0) = _ from hem2]; exact r_t (hR x K W hx) (j_e hx (by omega) (by omega) (by omega))))
              | (have hRR : ∀ x K W, okx x → Rch (kdC f) (nxC f) (1, x :: K, f 47 (f (fv 41 6) 0), sl (f 43) 0 (f (fv 42 3) 0), W) (5, x :: K, f 47 (f1 (fv 41 6) 0), sl (f1 43) 0 (f1 (fv 42 3) 0), W) := (fun x K W hx => r_t (hR x K W hx) (by rw [show jn9 = 0 by omega]; exact j_e0 hx (by omega) (by omega))))
              have hk := k0 (f1) (by first | exact hem1 | exact hrd1) (fun x K W hx => r_t (hRR x K W hx) (q_5e (by omega) (by omega))) (by first | (have q : f1 (fv 42 3) 0 = _ := hem3; show f1 (fv 42 3) 0 - f 47 (f1 (fv 41 6) 0) ≤ _; omega) | (show f1 (fv 42 3) 0 - _ ≤ _; omega)) (by show f 47 (f (fv 41 6) 0) < f 47 (f1 (fv 41 6) 0); omega)
              exact hk
        · refine hO (k_emit (by omega) (show (rdC (mx [43, fv 42 3, fv 42 5, fv 41 6, fv 41 7] f f1)) from hrd1) (show (f1 (fv 42 3) 0) < 400 from by omega) (show -9 ≤ jn9 → jn9 < 0 → bit (f1 (fv 42 5) 0) (-1 - jn9) = true from fun h _ => by omega) (fun f1_82 (hh_83 :  (rdC (mx [43, fv 42 3] (mx [43, fv 42 3, fv 42 5, fv 41 6, fv 41 7] f f1) f1_82))) (hh_84 : (sl (f1_82 43) 0 (f1_82 (fv 42 3) 0)) = (sl (f1 43) 0 (f1 (fv 42 3) 0)) ++ [jn9]) (hh_85 : f1_82 (fv 42 3) 0 = (f1 (fv 42 3) 0) + 1) => ?_))
          have hem1 := hh_83
          have hem2 := hh_84
          have hem3 := hh_85
          refine ⟨fun (hh_86 : f1 (fv 41 7) 0 = 43) => ?_, fun (hh_86 : ¬ f1 (fv 41 7) 0 = 43) => ?_⟩
          · refine ⟨fun _ => ?_, fun h => absurd hh_86 h⟩
            refine hO (k_step (by omega) (show (rdC (mx [43, fv 42 3] (mx [43, fv 42 3, fv 42 5, fv 41 6, fv 41 7] f f1) f1_82)) from by first | exact hem1 | exact hrd1) (show ¬ (f1 (fv 41 7) 0) = 0 from by omega) (fun f1_87 (hh_88 :  (rdC (mx [fv 41 6, fv 41 7] (mx [43, fv 42 3] (mx [43, fv 42 3, fv 42 5, fv 41 6, fv 41 7] f f1) f1_82) f1_87))) (hh_89 : ((f 47 (f1_87 (fv 41 6) 0))) = (nxC f) ((f 47 (f1 (fv 41 6) 0)))) (hh_90 : ((f 47 (f1 (fv 41 6) 0))) < (nxC f) ((f 47 (f1 (fv 41 6) 0)))) => ?_))
            have ht1 := hh_88
            have ht2 := hh_89
            have ht3 := hh_90
            have htb : f 47 (f1_87 (fv 41 6) 0) ≤ f (fv 39 1) 0 := (rdC_b hh_88).2.1
            refine ⟨show inr (nn9 + 1) from by constructor <;> omega, ?_⟩
            have q2 : f 47 ((mx [fv 41 6, fv 41 7] (mx [43, fv 42 3] f1 f1_82) f1_87) (fv 41 6) 0) = _ := ht2
            refine hB (2 * (401 - (f 47 ((mx [fv 41 6, fv 41 7] (mx [43, fv 42 3] f1 f1_82) f1_87) (fv 41 6) 0))) + 1 : Int).toNat ?_ (Or.inl ⟨rfl, (-10), (nn9 + 1), (mx [fv 41 6, fv 41 7] (mx [43, fv 42 3] f1 f1_82) f1_87), rfl, rfl, (mx_mx rfl (mx_mx rfl rfl)), rfl, ?_, ?_, ?_, ?_, ?_, ?_⟩)
            · omega
            · exact ht1
            · omega
            · intro x K W hx
              rw [show f 47 ((mx [fv 41 6, fv 41 7] (mx [43, fv 42 3] f1 f1_82) f1_87) (fv 41 6) 0) = _ from ht2]
              first
              | (rw [show sl ((mx [fv 41 6, fv 41 7] (mx [43, fv 42 3] f1 f1_82) f1_87) 43) 0 ((mx [fv 41 6, fv 41 7] (mx [43, fv 42 3] f1 f1_82) f1_87) (fv 42 3) 0) = _ from hem2]; exact r_t (hR x K W hx) (r_t (j_e hx (by omega) (by omega) (by omega)) (j_j (by omega) rfl)))
              | exact r_t (hR x K W hx) (r_t (by rw [show jn9 = 0 by omega]; exact j_e0 hx (by omega) (by omega)) (j_j (by omega) rfl))
            · have q2 : f 47 ((mx [fv 41 6, fv 41 7] (mx [43, fv 42 3] f1 f1_82) f1_87) (fv 41 6) 0) = _ := ht2
              have q1 : (¬ jn9 = 0 ∧ (mx [fv 41 6, fv 41 7] (mx [43, fv 42 3] f1 f1_82) f1_87) (fv 42 3) 0 = f1 (fv 42 3) 0 + 1) ∨ (jn9 = 0 ∧ (mx [fv 41 6, fv 41 7] (mx [43, fv 42 3] f1 f1_82) f1_87) (fv 42 3) 0 = f1 (fv 42 3) 0) := by first | exact Or.inl ⟨by omega, hem3⟩ | exact Or.inr ⟨by omega, rfl⟩
              refine ⟨fun h => ?_, fun h => ?_⟩ <;> omega
            · first
              | (have q2 : f 47 ((mx [fv 41 6, fv 41 7] (mx [43, fv 42 3] f1 f1_82) f1_87) (fv 41 6) 0) = _ := ht2; omega)
            · omega
          · refine ⟨fun (hh_91 : f1 (fv 41 7) 0 = 45) => ?_, fun (hh_91 : ¬ f1 (fv 41 7) 0 = 45) => ?_⟩
            · refine ⟨fun h => absurd h hh_86, fun _ => ?_⟩
              refine hO (k_step (by omega) (show (rdC (mx [43, fv 42 3] (mx [43, fv 42 3, fv 42 5, fv 41 6, fv 41 7] f f1) f1_82)) from by first | exact hem1 | exact hrd1) (show ¬ (f1 (fv 41 7) 0) = 0 from by omega) (fun f1_92 (hh_93 :  (rdC (mx [fv 41 6, fv 41 7] (mx [43, fv 42 3] (mx [43, fv 42 3, fv 42 5, fv 41 6, fv 41 7] f f1) f1_82) f1_92))) (hh_94 : ((f 47 (f1_92 (fv 41 6) 0))) = (nxC f) ((f 47 (f1 (fv 41 6) 0)))) (hh_95 : ((f 47 (f1 (fv 41 6) 0))) < (nxC f) ((f 47 (f1 (fv 41 6) 0)))) => ?_))
              have ht1 := hh_93
              have ht2 := hh_94
              have ht3 := hh_95
              have htb : f 47 (f1_92 (fv 41 6) 0) ≤ f (fv 39 1) 0 := (rdC_b hh_93).2.1
              refine ⟨show inr (nn9 + 1) from by constructor <;> omega, ?_⟩
              have q2 : f 47 ((mx [fv 41 6, fv 41 7] (mx [43, fv 42 3] f1 f1_82) f1_92) (fv 41 6) 0) = _ := ht2
              refine hB (2 * (401 - (f 47 ((mx [fv 41 6, fv 41 7] (mx [43, fv 42 3] f1 f1_82) f1_92) (fv 41 6) 0))) + 1 : Int).toNat ?_ (Or.inl ⟨rfl, (-11), (nn9 + 1), (mx [fv 41 6, fv 41 7] (mx [43, fv 42 3] f1 f1_82) f1_92), rfl, rfl, (mx_mx rfl (mx_mx rfl rfl)), rfl, ?_, ?_, ?_, ?_, ?_, ?_⟩)
              · omega
              · exact ht1
              · omega
              · intro x K W hx
                rw [show f 47 ((mx [fv 41 6, fv 41 7] (mx [43, fv 42 3] f1 f1_82) f1_92) (fv 41 6) 0) = _ from ht2]
                first
                | (rw [show sl ((mx [fv 41 6, fv 41 7] (mx [43, fv 42 3] f1 f1_82) f1_92) 43) 0 ((mx [fv 41 6, fv 41 7] (mx [43, fv 42 3] f1 f1_82) f1_92) (fv 42 3) 0) = _ from hem2]; exact r_t (hR x K W hx) (r_t (j_e hx (by omega) (by omega) (by omega)) (j_j (by omega) rfl)))
                | exact r_t (hR x K W hx) (r_t (by rw [show jn9 = 0 by omega]; exact j_e0 hx (by omega) (by omega)) (j_j (by omega) rfl))
              · have q2 : f 47 ((mx [fv 41 6, fv 41 7] (mx [43, fv 42 3] f1 f1_82) f1_92) (fv 41 6) 0) = _ := ht2
                have q1 : (¬ jn9 = 0 ∧ (mx [fv 41 6, fv 41 7] (mx [43, fv 42 3] f1 f1_82) f1_92) (fv 42 3) 0 = f1 (fv 42 3) 0 + 1) ∨ (jn9 = 0 ∧ (mx [fv 41 6, fv 41 7] (mx [43, fv 42 3] f1 f1_82) f1_92) (fv 42 3) 0 = f1 (fv 42 3) 0) := by first | exact Or.inl ⟨by omega, hem3⟩ | exact Or.inr ⟨by omega, rfl⟩
                refine ⟨fun h => ?_, fun h => ?_⟩ <;> omega
              · first
                | (have q2 : f 47 ((mx [fv 41 6, fv 41 7] (mx [43, fv 42 3] f1 f1_82) f1_92) (fv 41 6) 0) = _ := ht2; omega)
              · omega
            · refine ⟨show (1 : Int) = 0 ∨ 1 = 1 from by decide, ?_⟩
              first
              | (have hRR : ∀ x K W, okx x → Rch (kdC f) (nxC f) (1, x :: K, f 47 (f (fv 41 6) 0), sl (f 43) 0 (f (fv 42 3) 0), W) (5, x :: K, f 47 (f1 (fv 41 6) 0), sl ((mx [43, fv 42 3] f1 f1_82) 43) 0 ((mx [43, fv 42 3] f1 f1_82) (fv 42 3) 0), W) := (fun x K W hx => by rw [show sl ((mx [43, fv 42 3] f1 f1_82) 43) 0 ((mx [43, fv 42 3] f1 f1_82) (fv 42 3) 0) = _ from hem2]; exact r_t (hR x K W hx) (j_e hx (by omega) (by omega) (by omega))))
              | (have hRR : ∀ x K W, okx x → Rch (kdC f) (nxC f) (1, x :: K, f 47 (f (fv 41 6) 0), sl (f 43) 0 (f (fv 42 3) 0), W) (5, x :: K, f 47 (f1 (fv 41 6) 0), sl ((mx [43, fv 42 3] f1 f1_82) 43) 0 ((mx [43, fv 42 3] f1 f1_82) (fv 42 3) 0), W) := (fun x K W hx => r_t (hR x K W hx) (by rw [show jn9 = 0 by omega]; exact j_e0 hx (by omega) (by omega))))
              have hk := k0 ((mx [43, fv 42 3] f1 f1_82)) (by first | exact hem1 | exact hrd1) (fun x K W hx => r_t (hRR x K W hx) (q_5e (by omega) (by omega))) (by first | (have q : (mx [43, fv 42 3] f1 f1_82) (fv 42 3) 0 = _ := hem3; show (mx [43, fv 42 3] f1 f1_82) (fv 42 3) 0 - f 47 (f1 (fv 41 6) 0) ≤ _; omega) | (show f1 (fv 42 3) 0 - _ ≤ _; omega)) (by show f 47 (f (fv 41 6) 0) < f 47 (f1 (fv 41 6) 0); omega)
              rw [show mx [43, fv 42 3, fv 42 5, fv 41 6, fv 41 7] f (mx [43, fv 42 3] f1 f1_82) = (mx [43, fv 42 3] (mx [43, fv 42 3, fv 42 5, fv 41 6, fv 41 7] f f1) f1_82) from ((mx_mx rfl rfl)).symm] at hk
              exact hk
  · have hb0 := rdC_b hrd
    refine hF (2 * (401 - (f 47 (f (fv 41 6) 0))) + 1 : Int).toNat ?_ (Or.inl ⟨rfl, 0, 0, f, rfl, rfl, mx_rf, rfl, ?_, ?_, ?_, ?_, ?_, ?_⟩)
    · omega
    · exact hrd
    · omega
    · intro x K W hx; exact r_0
    · refine ⟨fun _ => Int.le_refl _, fun h => ?_⟩; omega
    · exact ⟨Int.le_refl _, by omega⟩
    · omega
end C39
