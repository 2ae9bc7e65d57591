section C6
variable {d : Nat} {f : iF} {g : iG} {Q : Option iv → iF → iG → Prop}
/-! ===== the class: the law is run ===== -/
def lnC (f : iF) (l : Int) : List Int × List Int := (sl (f 16) (f 17 l) (f 18 l), sl (f 16) (f 18 l) (f 17 (l + 1)))
def lwC (f : iF) : Lw := mkl (lnC f) (f (fv 15 4) 0).toNat 0
def lC (f : iF) : Prop := (0 ≤ f (fv 15 4) 0 ∧ f (fv 15 4) 0 ≤ 16) ∧ ∀ l, 0 ≤ l → l < f (fv 15 4) 0 → 0 ≤ f 17 l ∧ f 17 l < f 18 l ∧ f 18 l ≤ f 17 (l + 1) ∧ f 17 (l + 1) ≤ 400 ∧ lnok (lnC f l)
theorem b_and01 {x y : Int} (hx : x = 0 ∨ x = 1) (hy : y = 0 ∨ y = 1) : b_and x y = x * y := by
  rcases hx with h | h <;> rcases hy with h2 | h2 <;> subst h <;> subst h2 <;> decide
theorem b_or01 {x y : Int} (hx : x = 0 ∨ x = 1) (hy : y = 0 ∨ y = 1) : b_or x y = if 0 < x + y then 1 else 0 := by
  rcases hx with h | h <;> rcases hy with h2 | h2 <;> subst h <;> subst h2 <;> decide
set_option maxRecDepth 100000 in
set_option maxHeartbeats 4000000 in
theorem k_run {fr to : Int} (hd : 1 ≤ d) (h0 : 0 ≤ fr ∧ fr < to ∧ to ≤ 400) (hw : ∃ t, tyl (sl (f 16) fr to) [] = some [t]) (hfa : faok (f 57)) (k0 : ∀ f1 : iF, Q (some (iI (hdv (ev (f 57) (sl (f 16) fr to) [])))) (mx [58] f f1) g) : wq d 121 [iR 15, iI fr, iI to, iR 57, iR 58] f g Q := by
  obtain ⟨d, rfl⟩ : ∃ e, d = e + 1 := ⟨d - 1, by omega⟩
  refine i_meth [(8, 7), (138, 9)] (fun n j lv st f' g' => (j = 8 ∧ ∃ (top : Int) (k : Int) (vs : List Int) (ts : List Int) (f1 : iF), lv = [some (iR 15), some (iI fr), some (iI to), some (iR 57), some (iR 58), some (iI top), some (iI k)] ∧ st = [] ∧ f' = (mx [58] f f1) ∧ g = g' ∧ (rst (f 57) (f 16) fr to k (f1 58) top vs ts) ∧ (n : Int) = to - k) ∨ (j = 138 ∧ ∃ (top : Int) (k : Int) (op : Int) (a : Int) (vs2 : List Int) (ts2 : List Int) (f1 : iF), lv = [some (iR 15), some (iI fr), some (iI to), some (iR 57), some (iR 58), some (iI top), some (iI k), some (iI op), some (iI a)] ∧ st = [] ∧ f' = (mx [58] f f1) ∧ g = g' ∧ (fr ≤ k ∧ k < to) ∧ (1 ≤ top ∧ top ≤ 64) ∧ (∀ r' : Int → Int, r' (top - 1) = a → (∀ j, 0 ≤ j → j < top - 1 → r' j = f1 58 j) → rst (f 57) (f 16) fr to (k + 1) r' top vs2 ts2) ∧ (n : Int) = to - k)) 400 (by omega) rfl rfl (fun n j lv st f' g' hn hI O J hO hF hB => ?_) (fun hvs hin O J hO hF => ?_)
  · rcases hI with hI | hI
    · obtain ⟨rfl, top, k, vs, ts, f1, rfl, rfl, rfl, rfl, hr, hm⟩ := hI
      obtain ⟨tw, hw⟩ := hw
      have hr1 := hr.1
      have hr2 := hr.2.1
      refine ⟨fun (hh_1 : k < to) => ?_, fun (hh_1 : ¬ k < to) => ?_⟩
      · obtain ⟨ts2, ht⟩ := rst_t hr (by omega) hw
        refine ⟨fun _ => ?_, fun h => absurd (show k < 400 from by omega) h⟩
        refine ⟨show 0 ≤ (k : Int) ∧ k < 400 from by omega, ?_⟩
        refine ⟨fun (hh_2 : f 16 k < (-9)) => ?_, fun (hh_2 : ¬ f 16 k < (-9)) => ?_⟩
        · refine ⟨fun (hh_3 : f 16 k = (-19)) => ?_, fun (hh_3 : ¬ f 16 k = (-19)) => ?_⟩
          · obtain ⟨ht0, ht1, hb, hnx⟩ := rst_not hfa hr (by omega) ht hh_3
            have hnx' : ∀ r' : Int → Int, r' (top - 0 - 1) = 1 - f1 58 (top - 0 - 1) → (∀ j, 0 ≤ j → j < top - 0 - 1 → r' j = f1 58 j) → rst (f 57) (f 16) fr to (k + 1) r' (top - 0) (stp (f 57) (f 16 k) vs) ts2 := by rw [Int.sub_zero]; exact hnx
            have hb0 : f1 58 ((top - 0) - 1) = 0 ∨ f1 58 ((top - 0) - 1) = 1 := by rw [Int.sub_zero]; exact hb
            refine Or.inl ⟨show inr (top - 0) from by constructor <;> omega, ?_⟩
            refine ⟨fun h => absurd (show (top - 0) < 1 from h) (by omega), fun _ => ?_⟩
            refine Or.inl ⟨show inr ((top - 0) - 1) from by constructor <;> omega, ?_⟩
            refine ⟨show 0 ≤ (((top - 0) - 1) : Int) ∧ ((top - 0) - 1) < 64 from by omega, ?_⟩
            refine ⟨fun (hh_4 : (top - 0) < 64) => ?_, fun (hh_4 : ¬ (top - 0) < 64) => ?_⟩
            · refine ⟨show 0 ≤ ((top - 0) : Int) ∧ (top - 0) < 64 from by omega, ?_⟩
              refine ⟨fun (hh_5 : f 16 k = (-18)) => ?_, fun (hh_5 : ¬ f 16 k = (-18)) => ?_⟩
              · omega
              · refine ⟨fun (hh_6 : f 16 k = (-17)) => ?_, fun (hh_6 : ¬ f 16 k = (-17)) => ?_⟩
                · omega
                · refine ⟨fun (hh_7 : f 16 k = (-16)) => ?_, fun (hh_7 : ¬ f 16 k = (-16)) => ?_⟩
                  · omega
                  · refine ⟨fun (hh_8 : f 16 k = (-15)) => ?_, fun (hh_8 : ¬ f 16 k = (-15)) => ?_⟩
                    · omega
                    · refine ⟨fun (hh_9 : f 16 k = (-14)) => ?_, fun (hh_9 : ¬ f 16 k = (-14)) => ?_⟩
                      · omega
                      · refine ⟨fun (hh_10 : f 16 k = (-13)) => ?_, fun (hh_10 : ¬ f 16 k = (-13)) => ?_⟩
                        · omega
                        · refine ⟨fun (hh_11 : f 16 k = (-12)) => ?_, fun (hh_11 : ¬ f 16 k = (-12)) => ?_⟩
                          · omega
                          · refine ⟨fun (hh_12 : f 16 k = (-11)) => ?_, fun (hh_12 : ¬ f 16 k = (-11)) => ?_⟩
                            · omega
                            · refine ⟨fun (hh_13 : f 16 k = (-10)) => ?_, fun (hh_13 : ¬ f 16 k = (-10)) => ?_⟩
                              · omega
                              · refine Or.inl ⟨show inr (1 - (f1 58 ((top - 0) - 1))) from by constructor <;> omega, ?_⟩
                                refine hF (to - k : Int).toNat ?_ (Or.inr (⟨rfl, (top - 0), k, f 16 k, (1 - (f1 58 ((top - 0) - 1))), (stp (f 57) (f 16 k) vs), ts2, f1, rfl, rfl, rfl, rfl, ?_, ?_, ?_, ?_⟩))
                                · omega
                                · omega
                                · omega
                                · intro r' h0 h1
                                  exact hnx' r' h0 h1
                                · omega
            · refine ⟨fun (hh_14 : f 16 k = (-18)) => ?_, fun (hh_14 : ¬ f 16 k = (-18)) => ?_⟩
              · omega
              · refine ⟨fun (hh_15 : f 16 k = (-17)) => ?_, fun (hh_15 : ¬ f 16 k = (-17)) => ?_⟩
                · omega
                · refine ⟨fun (hh_16 : f 16 k = (-16)) => ?_, fun (hh_16 : ¬ f 16 k = (-16)) => ?_⟩
                  · omega
                  · refine ⟨fun (hh_17 : f 16 k = (-15)) => ?_, fun (hh_17 : ¬ f 16 k = (-15)) => ?_⟩
                    · omega
                    · refine ⟨fun (hh_18 : f 16 k = (-14)) => ?_, fun (hh_18 : ¬ f 16 k = (-14)) => ?_⟩
                      · omega
                      · refine ⟨fun (hh_19 : f 16 k = (-13)) => ?_, fun (hh_19 : ¬ f 16 k = (-13)) => ?_⟩
                        · omega
                        · refine ⟨fun (hh_20 : f 16 k = (-12)) => ?_, fun (hh_20 : ¬ f 16 k = (-12)) => ?_⟩
                          · omega
                          · refine ⟨fun (hh_21 : f 16 k = (-11)) => ?_, fun (hh_21 : ¬ f 16 k = (-11)) => ?_⟩
                            · omega
                            · refine ⟨fun (hh_22 : f 16 k = (-10)) => ?_, fun (hh_22 : ¬ f 16 k = (-10)) => ?_⟩
                              · omega
                              · refine Or.inl ⟨show inr (1 - (f1 58 ((top - 0) - 1))) from by constructor <;> omega, ?_⟩
                                refine hF (to - k : Int).toNat ?_ (Or.inr (⟨rfl, (top - 0), k, f 16 k, (1 - (f1 58 ((top - 0) - 1))), (stp (f 57) (f 16 k) vs), ts2, f1, rfl, rfl, rfl, rfl, ?_, ?_, ?_, ?_⟩))
                                · omega
                                · omega
                                · omega
                                · intro r' h0 h1
                                  exact hnx' r' h0 h1
                                · omega
          · obtain ⟨ht0, ht1, hix, hiy, h18, h13, h17, hnx⟩ := rst_two hfa hr (by omega) ht (by omega) hh_3
            refine Or.inl ⟨show inr (top - 1) from by constructor <;> omega, ?_⟩
            refine ⟨fun h => absurd (show (top - 1) < 1 from h) (by omega), fun _ => ?_⟩
            refine Or.inl ⟨show inr ((top - 1) - 1) from by constructor <;> omega, ?_⟩
            refine ⟨show 0 ≤ (((top - 1) - 1) : Int) ∧ ((top - 1) - 1) < 64 from by omega, ?_⟩
            refine ⟨fun _ => ?_, fun h => absurd (show (top - 1) < 64 from by omega) h⟩
            refine ⟨show 0 ≤ ((top - 1) : Int) ∧ (top - 1) < 64 from by omega, ?_⟩
            refine ⟨fun (hh_23 : f 16 k = (-18)) => ?_, fun (hh_23 : ¬ f 16 k = (-18)) => ?_⟩
            · refine hF (to - k : Int).toNat ?_ (Or.inr (⟨rfl, (top - 1), k, f 16 k, (b_or (f1 58 ((top - 1) - 1)) (f1 58 (top - 1))), (stp (f 57) (f 16 k) vs), ts2, f1, rfl, rfl, rfl, rfl, ?_, ?_, ?_, ?_⟩))
              · omega
              · omega
              · omega
              · intro r' h0 h1
                refine hnx r' (h0.trans ?_) h1
                rw [show f 16 k = -18 by assumption]
                exact b_or01 (h17 (by omega)).1 (h17 (by omega)).2
              · omega
            · refine ⟨fun (hh_24 : f 16 k = (-17)) => ?_, fun (hh_24 : ¬ f 16 k = (-17)) => ?_⟩
              · refine hF (to - k : Int).toNat ?_ (Or.inr (⟨rfl, (top - 1), k, f 16 k, (b_and (f1 58 ((top - 1) - 1)) (f1 58 (top - 1))), (stp (f 57) (f 16 k) vs), ts2, f1, rfl, rfl, rfl, rfl, ?_, ?_, ?_, ?_⟩))
                · omega
                · omega
                · omega
                · intro r' h0 h1
                  refine hnx r' (h0.trans ?_) h1
                  rw [show f 16 k = -17 by assumption]
                  exact b_and01 (h17 (by omega)).1 (h17 (by omega)).2
                · omega
              · refine ⟨fun (hh_25 : f 16 k = (-16)) => ?_, fun (hh_25 : ¬ f 16 k = (-16)) => ?_⟩
                · refine ⟨fun (hh_26 : f1 58 (top - 1) < f1 58 ((top - 1) - 1)) => ?_, fun (hh_26 : ¬ f1 58 (top - 1) < f1 58 ((top - 1) - 1)) => ?_⟩
                  · refine hF (to - k : Int).toNat ?_ (Or.inr (⟨rfl, (top - 1), k, f 16 k, 1, (stp (f 57) (f 16 k) vs), ts2, f1, rfl, rfl, rfl, rfl, ?_, ?_, ?_, ?_⟩))
                    · omega
                    · omega
                    · omega
                    · intro r' h0 h1
                      refine hnx r' (h0.trans ?_) h1
                      rw [show f 16 k = -16 by assumption]
                      show _ = if (f1 58 (top - 1)) < (f1 58 ((top - 1) - 1)) then (1 : Int) else 0
                      first | rw [if_pos (by assumption)] | rw [if_neg (by assumption)]
                    · omega
                  · refine hF (to - k : Int).toNat ?_ (Or.inr (⟨rfl, (top - 1), k, f 16 k, 0, (stp (f 57) (f 16 k) vs), ts2, f1, rfl, rfl, rfl, rfl, ?_, ?_, ?_, ?_⟩))
                    · omega
                    · omega
                    · omega
                    · intro r' h0 h1
                      refine hnx r' (h0.trans ?_) h1
                      rw [show f 16 k = -16 by assumption]
                      show _ = if (f1 58 (top - 1)) < (f1 58 ((top - 1) - 1)) then (1 : Int) else 0
                      first | rw [if_pos (by assumption)] | rw [if_neg (by assumption)]
                    · omega
                · refine ⟨fun (hh_27 : f 16 k = (-15)) => ?_, fun (hh_27 : ¬ f 16 k = (-15)) => ?_⟩
                  · refine ⟨fun (hh_28 : f1 58 ((top - 1) - 1) = f1 58 (top - 1)) => ?_, fun (hh_28 : ¬ f1 58 ((top - 1) - 1) = f1 58 (top - 1)) => ?_⟩
                    · refine hF (to - k : Int).toNat ?_ (Or.inr (⟨rfl, (top - 1), k, f 16 k, 1, (stp (f 57) (f 16 k) vs), ts2, f1, rfl, rfl, rfl, rfl, ?_, ?_, ?_, ?_⟩))
                      · omega
                      · omega
                      · omega
                      · intro r' h0 h1
                        refine hnx r' (h0.trans ?_) h1
                        rw [show f 16 k = -15 by assumption]
                        show _ = if (f1 58 ((top - 1) - 1)) = (f1 58 (top - 1)) then (1 : Int) else 0
                        first | rw [if_pos (by assumption)] | rw [if_neg (by assumption)]
                      · omega
                    · refine hF (to - k : Int).toNat ?_ (Or.inr (⟨rfl, (top - 1), k, f 16 k, 0, (stp (f 57) (f 16 k) vs), ts2, f1, rfl, rfl, rfl, rfl, ?_, ?_, ?_, ?_⟩))
                      · omega
                      · omega
                      · omega
                      · intro r' h0 h1
                        refine hnx r' (h0.trans ?_) h1
                        rw [show f 16 k = -15 by assumption]
                        show _ = if (f1 58 ((top - 1) - 1)) = (f1 58 (top - 1)) then (1 : Int) else 0
                        first | rw [if_pos (by assumption)] | rw [if_neg (by assumption)]
                      · omega
                  · refine ⟨fun (hh_29 : f 16 k = (-14)) => ?_, fun (hh_29 : ¬ f 16 k = (-14)) => ?_⟩
                    · refine ⟨fun (hh_30 : f1 58 ((top - 1) - 1) < f1 58 (top - 1)) => ?_, fun (hh_30 : ¬ f1 58 ((top - 1) - 1) < f1 58 (top - 1)) => ?_⟩
                      · refine hF (to - k : Int).toNat ?_ (Or.inr (⟨rfl, (top - 1), k, f 16 k, 1, (stp (f 57) (f 16 k) vs), ts2, f1, rfl, rfl, rfl, rfl, ?_, ?_, ?_, ?_⟩))
                        · omega
                        · omega
                        · omega
                        · intro r' h0 h1
                          refine hnx r' (h0.trans ?_) h1
                          rw [show f 16 k = -14 by assumption]
                          show _ = if (f1 58 ((top - 1) - 1)) < (f1 58 (top - 1)) then (1 : Int) else 0
                          first | rw [if_pos (by assumption)] | rw [if_neg (by assumption)]
                        · omega
                      · refine hF (to - k : Int).toNat ?_ (Or.inr (⟨rfl, (top - 1), k, f 16 k, 0, (stp (f 57) (f 16 k) vs), ts2, f1, rfl, rfl, rfl, rfl, ?_, ?_, ?_, ?_⟩))
                        · omega
                        · omega
                        · omega
                        · intro r' h0 h1
                          refine hnx r' (h0.trans ?_) h1
                          rw [show f 16 k = -14 by assumption]
                          show _ = if (f1 58 ((top - 1) - 1)) < (f1 58 (top - 1)) then (1 : Int) else 0
                          first | rw [if_pos (by assumption)] | rw [if_neg (by assumption)]
                        · omega
                    · refine ⟨fun (hh_31 : f 16 k = (-13)) => ?_, fun (hh_31 : ¬ f 16 k = (-13)) => ?_⟩
                      · have h13' := h13 (by omega)
                        refine ⟨fun h => absurd (show f1 58 (top - 1) = 0 from h) (by omega), fun _ => ?_⟩
                        refine ⟨show ¬ (f1 58 (top - 1) : Int) = 0 from by omega, show inr ((f1 58 ((top - 1) - 1)).tdiv (f1 58 (top - 1))) from by exact tdiv_le hix (by omega), ?_⟩
                        refine hF (to - k : Int).toNat ?_ (Or.inr (⟨rfl, (top - 1), k, f 16 k, ((f1 58 ((top - 1) - 1)).tdiv (f1 58 (top - 1))), (stp (f 57) (f 16 k) vs), ts2, f1, rfl, rfl, rfl, rfl, ?_, ?_, ?_, ?_⟩))
                        · omega
                        · omega
                        · omega
                        · intro r' h0 h1
                          refine hnx r' (h0.trans ?_) h1
                          rw [show f 16 k = -13 by assumption]
                          rfl
                        · omega
                      · refine ⟨fun (hh_32 : f 16 k = (-12)) => ?_, fun (hh_32 : ¬ f 16 k = (-12)) => ?_⟩
                        · refine Or.inr ?_
                          refine hF (to - k : Int).toNat ?_ (Or.inr (⟨rfl, (top - 1), k, f 16 k, (w32 ((f1 58 ((top - 1) - 1)) * (f1 58 (top - 1)))), (stp (f 57) (f 16 k) vs), ts2, f1, rfl, rfl, rfl, rfl, ?_, ?_, ?_, ?_⟩))
                          · omega
                          · omega
                          · omega
                          · intro r' h0 h1
                            refine hnx r' (h0.trans ?_) h1
                            rw [show f 16 k = -12 by assumption]
                            rfl
                          · omega
                        · refine ⟨fun (hh_33 : f 16 k = (-11)) => ?_, fun (hh_33 : ¬ f 16 k = (-11)) => ?_⟩
                          · refine Or.inr ?_
                            refine hF (to - k : Int).toNat ?_ (Or.inr (⟨rfl, (top - 1), k, f 16 k, (w32 ((f1 58 ((top - 1) - 1)) - (f1 58 (top - 1)))), (stp (f 57) (f 16 k) vs), ts2, f1, rfl, rfl, rfl, rfl, ?_, ?_, ?_, ?_⟩))
                            · omega
                            · omega
                            · omega
                            · intro r' h0 h1
                              refine hnx r' (h0.trans ?_) h1
                              rw [show f 16 k = -11 by assumption]
                              rfl
                            · omega
                          · refine ⟨fun (hh_34 : f 16 k = (-10)) => ?_, fun (hh_34 : ¬ f 16 k = (-10)) => ?_⟩
                            · refine Or.inr ?_
                              refine hF (to - k : Int).toNat ?_ (Or.inr (⟨rfl, (top - 1), k, f 16 k, (w32 ((f1 58 ((top - 1) - 1)) + (f1 58 (top - 1)))), (stp (f 57) (f 16 k) vs), ts2, f1, rfl, rfl, rfl, rfl, ?_, ?_, ?_, ?_⟩))
                              · omega
                              · omega
                              · omega
                              · intro r' h0 h1
                                refine hnx r' (h0.trans ?_) h1
                                rw [show f 16 k = -10 by assumption]
                                rfl
                              · omega
                            · omega
        · have htop : 0 ≤ top ∧ top < 64 := by
                      rcases Int.lt_or_le (f 16 k) 0 with h | h
                      · exact ⟨(rst_ask hfa hr (by omega) ht h (by omega)).1, (rst_ask hfa hr (by omega) ht h (by omega)).2.1⟩
                      · exact ⟨(rst_num hfa hr (by omega) ht h).1, (rst_num hfa hr (by omega) ht h).2.1⟩
          refine ⟨fun _ => ?_, fun h => absurd (show top < 64 from by omega) h⟩
          refine ⟨fun (hh_35 : f 16 k < 0) => ?_, fun (hh_35 : ¬ f 16 k < 0) => ?_⟩
          · obtain ⟨-, -, hnx⟩ := rst_ask hfa hr (by omega) ht hh_35 (by omega)
            refine Or.inl ⟨show inr ((-1) - (f 16 k)) from by constructor <;> omega, ?_⟩
            refine ⟨show 0 ≤ (((-1) - (f 16 k)) : Int) ∧ ((-1) - (f 16 k)) < 9 from by omega, ?_⟩
            refine ⟨show 0 ≤ (top : Int) ∧ top < 64 from by omega, ?_⟩
            refine ⟨show inr (top + 1) from by constructor <;> omega, ?_⟩
            refine ⟨show inr (k + 1) from by constructor <;> omega, ?_⟩
            refine hB (to - (k + 1) : Int).toNat ?_ (Or.inl ⟨rfl, (top + 1), (k + 1), (stp (f 57) (f 16 k) vs), ts2, (wv f1 58 top (f 57 ((-1) - (f 16 k)))), rfl, rfl, (mx_wv rfl rfl), rfl, ?_, ?_⟩)
            · omega
            · exact hnx _ wv_s (fun j h0 h1 => wv_k (by omega))
            · omega
          · obtain ⟨-, -, hnx⟩ := rst_num hfa hr (by omega) ht (by omega)
            refine ⟨show 0 ≤ (top : Int) ∧ top < 64 from by omega, ?_⟩
            refine ⟨show inr (top + 1) from by constructor <;> omega, ?_⟩
            refine ⟨show inr (k + 1) from by constructor <;> omega, ?_⟩
            refine hB (to - (k + 1) : Int).toNat ?_ (Or.inl ⟨rfl, (top + 1), (k + 1), (stp (f 57) (f 16 k) vs), ts2, (wv f1 58 top (f 16 k)), rfl, rfl, (mx_wv rfl rfl), rfl, ?_, ?_⟩)
            · omega
            · exact hnx _ wv_s (fun j h0 h1 => wv_k (by omega))
            · omega
      · obtain ⟨hend1, hend2⟩ := rst_end hr (by omega) hw
        refine ⟨fun _ => ?_, fun h => absurd (show 0 < top from by omega) h⟩
        refine ⟨show 0 ≤ (0 : Int) ∧ 0 < 64 from by decide, ?_⟩
        rw [← hend2] at k0
        exact k0 f1
    · obtain ⟨rfl, top, k, op, a, vs2, ts2, f1, rfl, rfl, rfl, rfl, hk, htp, hnx, hm⟩ := hI
      refine Or.inl ⟨show inr (top - 1) from by constructor <;> omega, ?_⟩
      refine ⟨show 0 ≤ ((top - 1) : Int) ∧ (top - 1) < 64 from by omega, ?_⟩
      refine ⟨show inr (k + 1) from by constructor <;> omega, ?_⟩
      refine hB (to - (k + 1) : Int).toNat ?_ (Or.inl ⟨rfl, top, (k + 1), vs2, ts2, (wv f1 58 (top - 1) a), rfl, rfl, (mx_wv rfl rfl), rfl, ?_, ?_⟩)
      · omega
      · exact hnx _ wv_s (fun j h0 h1 => wv_k (by omega))
      · omega
  · obtain ⟨tw, hw⟩ := hw
    refine ⟨fun h => absurd (show fr < 0 from h) (by omega), fun _ => ?_⟩
    refine hF (to - fr : Int).toNat ?_ (Or.inl ⟨rfl, 0, fr, [], [], f, rfl, rfl, mx_rf, rfl, ?_, ?_⟩)
    · omega
    · exact rst_0 (by omega)
    · omega
theorem lnC_ne {f : iF} {l : Int} (h : f 18 l < f 17 (l + 1)) : ¬ (lnC f l).2 = [] := by
  show ¬ sl (f 16) (f 18 l) (f 17 (l + 1)) = []
  rw [sl_cons h]
  exact List.cons_ne_nil _ _
set_option maxRecDepth 100000 in
set_option maxHeartbeats 4000000 in
theorem k_isBare {l : Int} (hd : 1 ≤ d) (hl0 : 0 ≤ l) (hl1 : l < 16) (k0 : ((f 17 (l + 1)) ≤ (f 18 l)) → Q (some (iI 1)) f g) (k1 : ((f 18 l) < (f 17 (l + 1))) → Q (some (iI 0)) f g) : wq d 117 [iR 15, iI l] f g Q := by
  obtain ⟨d, rfl⟩ : ∃ e, d = e + 1 := ⟨d - 1, by omega⟩
  refine i_meth0 rfl rfl (fun O J hO => ?_)
  refine ⟨show 0 ≤ (l : Int) ∧ l < 16 from by omega, ?_⟩
  refine Or.inl ⟨show inr (l + 1) from by constructor <;> omega, ?_⟩
  refine ⟨show 0 ≤ ((l + 1) : Int) ∧ (l + 1) < 17 from by omega, ?_⟩
  refine ⟨fun (hh_1 : f 18 l < f 17 (l + 1)) => ?_, fun (hh_1 : ¬ f 18 l < f 17 (l + 1)) => ?_⟩
  · refine ⟨show (0 : Int) = 0 ∨ 0 = 1 from by decide, ?_⟩
    exact k1 (by omega)
  · refine ⟨show (1 : Int) = 0 ∨ 1 = 1 from by decide, ?_⟩
    exact k0 (by omega)
theorem clp_mm (v : Int) : clp v = max 0 (min 99 v) := by unfold clp; split <;> (try split) <;> omega
set_option maxRecDepth 100000 in
set_option maxHeartbeats 4000000 in
theorem k_payFor (hd : 2 ≤ d) (hl : (lC f)) (hfa : faok (f 57)) (k0 : ∀ f1 : iF, Q (some (iI (payM (f 57) (lwC f)))) (mx [58] f f1) g) : wq d 118 [iR 15, iR 57, iR 58] f g Q := by
  obtain ⟨d, rfl⟩ : ∃ e, d = e + 1 := ⟨d - 1, by omega⟩
  refine i_meth [(2, 4)] (fun n j lv st f' g' => (j = 2 ∧ ∃ (l : Int) (f1 : iF), lv = [some (iR 15), some (iR 57), some (iR 58), some (iI l)] ∧ st = [] ∧ f' = (mx [58] f f1) ∧ g = g' ∧ (0 ≤ l ∧ l ≤ (f (fv 15 4) 0)) ∧ (payM (f 57) (mkl (lnC f) ((f (fv 15 4) 0) - l).toNat l) = payM (f 57) (lwC f)) ∧ (n : Int) = (f (fv 15 4) 0) - l)) 20 (by omega) rfl rfl (fun n j lv st f' g' hn hI O J hO hF hB => ?_) (fun hvs hin O J hO hF => ?_)
  · obtain ⟨rfl, l, f1, rfl, rfl, rfl, rfl, hl2, hp, hm⟩ := hI
    have hl1 := hl.1
    refine ⟨fun (hh_1 : l < f (fv 15 4) 0) => ?_, fun (hh_1 : ¬ l < f (fv 15 4) 0) => ?_⟩
    · have hln := hl.2 l (by omega) (by omega)
      refine ⟨fun _ => ?_, fun h => absurd (show l < 16 from by omega) h⟩
      refine hO (k_isBare (by omega) (show 0 ≤ l from by omega) (show l < 16 from by omega) (fun (hh_2 : (f 17 (l + 1)) ≤ (f 18 l)) => ?_) (fun (hh_3 : (f 18 l) < (f 17 (l + 1))) => ?_))
      · have hso : (lnC f l).2 = [] ∨ ¬ hdv (ev (f 57) (lnC f l).2 []) = 0 := Or.inl (sl_nil (by omega))
        refine ⟨fun h => absurd (show (1 : Int) = 0 from h) (by decide), fun _ => ?_⟩
        refine ⟨show 0 ≤ (l : Int) ∧ l < 17 from by omega, ?_⟩
        refine ⟨show 0 ≤ (l : Int) ∧ l < 16 from by omega, ?_⟩
        refine hO (k_run (by omega) (show 0 ≤ (f 17 l) ∧ (f 17 l) < (f 18 l) ∧ (f 18 l) ≤ 400 from by omega) (show ∃ t, tyl (sl (f 16) (f 17 l) (f 18 l)) [] = some [t] from by obtain ⟨t, -, ht⟩ := hln.2.2.2.2.1; exact ⟨t, ht⟩) (show faok (f 57) from hfa) (fun f1_4 => ?_))
        rw [show (mx [58] (mx [58] f f1) f1_4) = mx [58] f (mx [58] f1 f1_4) from (mx_mx rfl rfl)]
        have he : payM (f 57) (lwC f) = clp (hdv (ev (f 57) (sl (f 16) (f 17 l) (f 18 l)) [])) := by rw [← hp, show (f (fv 15 4) 0 - l).toNat = (f (fv 15 4) 0 - (l + 1)).toNat + 1 by omega, mkl, payM, if_pos hso]; rfl
        rw [he, clp_mm] at k0
        exact k0 (mx [58] f1 f1_4)
      · have hty : tyl (sl (f 16) (f 18 l) (f 17 (l + 1))) [] = some [3] := by rcases hln.2.2.2.2.2 with h7 | h7; exact absurd h7 (lnC_ne (by omega)); exact h7
        refine ⟨fun _ => ?_, fun h => absurd (show (0 : Int) = 0 from by decide) h⟩
        refine ⟨show 0 ≤ (l : Int) ∧ l < 16 from by omega, ?_⟩
        refine Or.inl ⟨show inr (l + 1) from by constructor <;> omega, ?_⟩
        refine ⟨show 0 ≤ ((l + 1) : Int) ∧ (l + 1) < 17 from by omega, ?_⟩
        refine hO (k_run (by omega) (show 0 ≤ (f 18 l) ∧ (f 18 l) < (f 17 (l + 1)) ∧ (f 17 (l + 1)) ≤ 400 from by omega) (show ∃ t, tyl (sl (f 16) (f 18 l) (f 17 (l + 1))) [] = some [t] from ⟨3, hty⟩) (show faok (f 57) from hfa) (fun f1_5 => ?_))
        refine ⟨fun (hh_6 : hdv (ev (f 57) (sl (f 16) (f 18 l) (f 17 (l + 1))) []) = 0) => ?_, fun (hh_6 : ¬ hdv (ev (f 57) (sl (f 16) (f 18 l) (f 17 (l + 1))) []) = 0) => ?_⟩
        · have hso : ¬ ((lnC f l).2 = [] ∨ ¬ hdv (ev (f 57) (lnC f l).2 []) = 0) := fun h => by rcases h with h | h; exact lnC_ne (by omega) h; exact h hh_6
          refine ⟨show inr (l + 1) from by constructor <;> omega, ?_⟩
          refine hB ((f (fv 15 4) 0) - (l + 1) : Int).toNat ?_ ⟨rfl, (l + 1), (mx [58] f1 f1_5), rfl, rfl, (mx_mx rfl rfl), rfl, ?_, ?_, ?_⟩
          · omega
          · omega
          · rw [← hp, show (f (fv 15 4) 0 - l).toNat = (f (fv 15 4) 0 - (l + 1)).toNat + 1 by omega, mkl, payM, if_neg hso]
          · omega
        · have hso : (lnC f l).2 = [] ∨ ¬ hdv (ev (f 57) (lnC f l).2 []) = 0 := Or.inr hh_6
          refine ⟨show 0 ≤ (l : Int) ∧ l < 17 from by omega, ?_⟩
          refine ⟨show 0 ≤ (l : Int) ∧ l < 16 from by omega, ?_⟩
          refine hO (k_run (by omega) (show 0 ≤ (f 17 l) ∧ (f 17 l) < (f 18 l) ∧ (f 18 l) ≤ 400 from by omega) (show ∃ t, tyl (sl (f 16) (f 17 l) (f 18 l)) [] = some [t] from by obtain ⟨t, -, ht⟩ := hln.2.2.2.2.1; exact ⟨t, ht⟩) (show faok (f 57) from hfa) (fun f1_7 => ?_))
          rw [show (mx [58] (mx [58] (mx [58] f f1) f1_5) f1_7) = mx [58] f (mx [58] (mx [58] f1 f1_5) f1_7) from (mx_mx rfl (mx_mx rfl rfl))]
          have he : payM (f 57) (lwC f) = clp (hdv (ev (f 57) (sl (f 16) (f 17 l) (f 18 l)) [])) := by rw [← hp, show (f (fv 15 4) 0 - l).toNat = (f (fv 15 4) 0 - (l + 1)).toNat + 1 by omega, mkl, payM, if_pos hso]; rfl
          rw [he, clp_mm] at k0
          exact k0 (mx [58] (mx [58] f1 f1_5) f1_7)
    · have he : payM (f 57) (lwC f) = 1 := by rw [← hp, show (f (fv 15 4) 0 - l).toNat = 0 by omega]; rfl
      rw [he] at k0
      exact k0 f1
  · have hl1 := hl.1
    refine hF ((f (fv 15 4) 0) - 0 : Int).toNat ?_ ⟨rfl, 0, f, rfl, rfl, mx_rf, rfl, ?_, ?_, ?_⟩
    · omega
    · omega
    · rw [show f (fv 15 4) 0 - 0 = f (fv 15 4) 0 by omega]; rfl
    · omega
end C6
