section C23
variable {d : Nat} {f : iF} {g : iG} {Q : Option iv → iF → iG → Prop}
/-! ===== the reference: the image ===== -/
theorem wv_same {f1 : iF} {F : Int → Int} {c : Nat} {k v : Int} (h : f1 c = F) (hv : v = F k) : wv f1 c k v c = F := by
  funext j
  rw [wv_i]
  by_cases e : j = k
  · rw [if_pos e, hv, e]
  · rw [if_neg e, h]
set_option maxRecDepth 100000 in
set_option maxHeartbeats 4000000 in
theorem c_kept {v : Int} (hd : 1 ≤ d) (hq : 0 ≤ (f (fv 79 51) 0) ∧ (f (fv 79 51) 0) < 2400) (k0 : ∀ r : Int, ∀ f1 : iF, (f1 (fv 79 51) 0 = (f (fv 79 51) 0) + 1) → (r = f1 105 (f (fv 79 51) 0)) → (∀ j, j < (f (fv 79 51) 0) → f1 105 j = (f 105 j)) → ((f (fv 79 49) 0) = 0 → f1 105 = (f 105)) → (¬ (f (fv 79 49) 0) = 0 → r = v) → Q (some (iI r)) (mx [105, fv 79 51] f f1) g) : wq d 80 [iR 79, iI v] f g Q := by
  obtain ⟨d, rfl⟩ : ∃ e, d = e + 1 := ⟨d - 1, by omega⟩
  refine i_meth0 rfl rfl (fun O J hO => ?_)
  refine Or.inl ⟨show inr ((f (fv 79 51) 0) + 1) from by constructor <;> omega, ?_⟩
  refine ⟨fun (hh_1 : f (fv 79 49) 0 = 0) => ?_, fun (hh_1 : ¬ f (fv 79 49) 0 = 0) => ?_⟩
  · refine Or.inl ⟨show inr (((f (fv 79 51) 0) + 1) - 1) from by constructor <;> omega, ?_⟩
    refine ⟨show 0 ≤ ((((f (fv 79 51) 0) + 1) - 1) : Int) ∧ (((f (fv 79 51) 0) + 1) - 1) < 2400 from by omega, ?_⟩
    have hsv : f (fv 79 51) 0 + 1 - 1 = f (fv 79 51) 0 := by omega
    have hk := k0 (f 105 (((f (fv 79 51) 0) + 1) - 1)) (wv f (fv 79 51) 0 ((f (fv 79 51) 0) + 1)) rfl (by rw [hsv]; rfl) (fun j _ => rfl) (fun _ => rfl) (fun h => absurd (by assumption) h)
    rw [show mx [105, fv 79 51] f (wv f (fv 79 51) 0 ((f (fv 79 51) 0) + 1)) = (wv f (fv 79 51) 0 ((f (fv 79 51) 0) + 1)) from ((mx_wv rfl mx_rf)).symm] at hk
    exact hk
  · refine Or.inl ⟨show inr (((f (fv 79 51) 0) + 1) - 1) from by constructor <;> omega, ?_⟩
    refine ⟨show 0 ≤ ((((f (fv 79 51) 0) + 1) - 1) : Int) ∧ (((f (fv 79 51) 0) + 1) - 1) < 2400 from by omega, ?_⟩
    have hsv : f (fv 79 51) 0 + 1 - 1 = f (fv 79 51) 0 := by omega
    have hk := k0 (v) (wv (wv f (fv 79 51) 0 ((f (fv 79 51) 0) + 1)) 105 (((f (fv 79 51) 0) + 1) - 1) v) rfl (by show v = wv _ 105 (f (fv 79 51) 0 + 1 - 1) v 105 (f (fv 79 51) 0); rw [hsv, wv_s]) (fun j hj => by show wv _ 105 (f (fv 79 51) 0 + 1 - 1) v 105 j = _; rw [wv_k (by omega)]; rfl) (fun h => absurd h (by assumption)) (fun _ => rfl)
    rw [show mx [105, fv 79 51] f (wv (wv f (fv 79 51) 0 ((f (fv 79 51) 0) + 1)) 105 (((f (fv 79 51) 0) + 1) - 1) v) = (wv (wv f (fv 79 51) 0 ((f (fv 79 51) 0) + 1)) 105 (((f (fv 79 51) 0) + 1) - 1) v) from ((mx_wv rfl (mx_wv rfl mx_rf))).symm] at hk
    exact hk
set_option maxRecDepth 100000 in
set_option maxHeartbeats 4000000 in
theorem c_keepsRows (hd : 2 ≤ d) (hq : (f (fv 79 51) 0) = 133) (k0 : ∀ f1 : iF, (f1 (fv 79 51) 0 = 1455) → (∀ j, j < 133 → f1 105 j = (f 105 j)) → ((f (fv 79 49) 0) = 0 → f1 105 = (f 105)) → (¬ (f (fv 79 49) 0) = 0 → f1 88 = f 88 ∧ f1 90 = f 90 ∧ f1 91 = f 91 ∧ f1 103 = f 103 ∧ f1 (fv 79 13) 0 = f (fv 79 13) 0 ∧ f1 (fv 79 17) 0 = f (fv 79 17) 0) → (f1 (fv 79 13) 0 = f1 105 133) → (∀ j, 0 ≤ j → j < 60 → f1 88 j = f1 105 (134 + 1 * j)) → (f1 (fv 79 17) 0 = f1 105 194) → (∀ j, 0 ≤ j → j < 20 → f1 90 j = f1 105 (195 + 1 * j)) → (∀ j, 0 ≤ j → j < 240 → f1 91 j = f1 105 (215 + 1 * j)) → (∀ j, 0 ≤ j → j < 1000 → f1 103 j = f1 105 (455 + 1 * j)) → Q none (mx [88, 90, 91, 103, fv 79 13, fv 79 17, 105, fv 79 51] f f1) g) : wq d 82 [iR 79] f g Q := by
  obtain ⟨d, rfl⟩ : ∃ e, d = e + 1 := ⟨d - 1, by omega⟩
  refine i_meth [(8, 2), (31, 2), (48, 2), (65, 2)] (fun n j lv st f' g' => (j = 8 ∧ ∃ (k : Int) (f1 : iF), lv = [some (iR 79), some (iI k)] ∧ st = [] ∧ f' = (mx [88, 90, 91, 103, fv 79 13, fv 79 17, 105, fv 79 51] f f1) ∧ g = g' ∧ (0 ≤ k ∧ k ≤ 60) ∧ (f1 (fv 79 51) 0 = 134 + 1 * k) ∧ (∀ j, j < 133 → f1 105 j = f 105 j) ∧ (f (fv 79 49) 0 = 0 → f1 105 = f 105) ∧ (¬ f (fv 79 49) 0 = 0 → f1 88 = f 88 ∧ f1 90 = f 90 ∧ f1 91 = f 91 ∧ f1 103 = f 103 ∧ f1 (fv 79 13) 0 = f (fv 79 13) 0 ∧ f1 (fv 79 17) 0 = f (fv 79 17) 0) ∧ (f1 (fv 79 13) 0 = f1 105 133) ∧ (∀ j, 0 ≤ j → j < k → f1 88 j = f1 105 (134 + 1 * j)) ∧ (n : Int) = 1324 - k) ∨ (j = 31 ∧ ∃ (k : Int) (f1 : iF), lv = [some (iR 79), some (iI k)] ∧ st = [] ∧ f' = (mx [88, 90, 91, 103, fv 79 13, fv 79 17, 105, fv 79 51] f f1) ∧ g = g' ∧ (0 ≤ k ∧ k ≤ 20) ∧ (f1 (fv 79 51) 0 = 195 + 1 * k) ∧ (∀ j, j < 133 → f1 105 j = f 105 j) ∧ (f (fv 79 49) 0 = 0 → f1 105 = f 105) ∧ (¬ f (fv 79 49) 0 = 0 → f1 88 = f 88 ∧ f1 90 = f 90 ∧ f1 91 = f 91 ∧ f1 103 = f 103 ∧ f1 (fv 79 13) 0 = f (fv 79 13) 0 ∧ f1 (fv 79 17) 0 = f (fv 79 17) 0) ∧ (f1 (fv 79 13) 0 = f1 105 133) ∧ (∀ j, 0 ≤ j → j < 60 → f1 88 j = f1 105 (134 + 1 * j)) ∧ (f1 (fv 79 17) 0 = f1 105 194) ∧ (∀ j, 0 ≤ j → j < k → f1 90 j = f1 105 (195 + 1 * j)) ∧ (n : Int) = 1263 - k) ∨ (j = 48 ∧ ∃ (k : Int) (f1 : iF), lv = [some (iR 79), some (iI k)] ∧ st = [] ∧ f' = (mx [88, 90, 91, 103, fv 79 13, fv 79 17, 105, fv 79 51] f f1) ∧ g = g' ∧ (0 ≤ k ∧ k ≤ 240) ∧ (f1 (fv 79 51) 0 = 215 + 1 * k) ∧ (∀ j, j < 133 → f1 105 j = f 105 j) ∧ (f (fv 79 49) 0 = 0 → f1 105 = f 105) ∧ (¬ f (fv 79 49) 0 = 0 → f1 88 = f 88 ∧ f1 90 = f 90 ∧ f1 91 = f 91 ∧ f1 103 = f 103 ∧ f1 (fv 79 13) 0 = f (fv 79 13) 0 ∧ f1 (fv 79 17) 0 = f (fv 79 17) 0) ∧ (f1 (fv 79 13) 0 = f1 105 133) ∧ (∀ j, 0 ≤ j → j < 60 → f1 88 j = f1 105 (134 + 1 * j)) ∧ (f1 (fv 79 17) 0 = f1 105 194) ∧ (∀ j, 0 ≤ j → j < 20 → f1 90 j = f1 105 (195 + 1 * j)) ∧ (∀ j, 0 ≤ j → j < k → f1 91 j = f1 105 (215 + 1 * j)) ∧ (n : Int) = 1242 - k) ∨ (j = 65 ∧ ∃ (k : Int) (f1 : iF), lv = [some (iR 79), some (iI k)] ∧ st = [] ∧ f' = (mx [88, 90, 91, 103, fv 79 13, fv 79 17, 105, fv 79 51] f f1) ∧ g = g' ∧ (0 ≤ k ∧ k ≤ 1000) ∧ (f1 (fv 79 51) 0 = 455 + 1 * k) ∧ (∀ j, j < 133 → f1 105 j = f 105 j) ∧ (f (fv 79 49) 0 = 0 → f1 105 = f 105) ∧ (¬ f (fv 79 49) 0 = 0 → f1 88 = f 88 ∧ f1 90 = f 90 ∧ f1 91 = f 91 ∧ f1 103 = f 103 ∧ f1 (fv 79 13) 0 = f (fv 79 13) 0 ∧ f1 (fv 79 17) 0 = f (fv 79 17) 0) ∧ (f1 (fv 79 13) 0 = f1 105 133) ∧ (∀ j, 0 ≤ j → j < 60 → f1 88 j = f1 105 (134 + 1 * j)) ∧ (f1 (fv 79 17) 0 = f1 105 194) ∧ (∀ j, 0 ≤ j → j < 20 → f1 90 j = f1 105 (195 + 1 * j)) ∧ (∀ j, 0 ≤ j → j < 240 → f1 91 j = f1 105 (215 + 1 * j)) ∧ (∀ j, 0 ≤ j → j < k → f1 103 j = f1 105 (455 + 1 * j)) ∧ (n : Int) = 1001 - k)) 1400 (by omega) rfl rfl (fun n j lv st f' g' hn hI O J hO hF hB => ?_) (fun hvs hin O J hO hF => ?_)
  · rcases hI with hI | hI | hI | hI
    · obtain ⟨rfl, k, f1, rfl, rfl, rfl, rfl, hk, hqq, hlo, ht0, ht1, dn0, cu0, hm⟩ := hI
      refine ⟨fun (hh_1 : k < 60) => ?_, fun (hh_1 : ¬ k < 60) => ?_⟩
      · refine ⟨show 0 ≤ (k : Int) ∧ k < 60 from by omega, ?_⟩
        refine hO (c_kept (by omega) (show 0 ≤ (f1 (fv 79 51) 0) ∧ (f1 (fv 79 51) 0) < 2400 from by omega) (fun r_2 f1_3 (hh_4 : f1_3 (fv 79 51) 0 = (f1 (fv 79 51) 0) + 1) (hh_5 : r_2 = f1_3 105 (f1 (fv 79 51) 0)) (hh_6 : ∀ j, j < (f1 (fv 79 51) 0) → f1_3 105 j = (f1 105 j)) (hh_7 : (f (fv 79 49) 0) = 0 → f1_3 105 = (f1 105)) (hh_8 : ¬ (f (fv 79 49) 0) = 0 → r_2 = (f1 88 k)) => ?_))
        refine ⟨show 0 ≤ (k : Int) ∧ k < 60 from by omega, ?_⟩
        refine ⟨show inr (k + 1) from by constructor <;> omega, ?_⟩
        refine hB (1324 - (k + 1) : Int).toNat ?_ (Or.inl ⟨rfl, (k + 1), (wv (mx [105, fv 79 51] f1 f1_3) 88 k r_2), rfl, rfl, (mx_wv rfl (mx_mx rfl rfl)), rfl, ?_, ?_, ?_, ?_, ?_, ?_, ?_, ?_⟩)
        · omega
        · omega
        · show f1_3 (fv 79 51) 0 = _
          omega
        · intro j hj
          show (f1_3 105) j = _
          rw [hh_6 _ (by omega)]
          exact hlo j hj
        · intro h
          show (f1_3 105) = _
          rw [hh_7 h]
          exact ht0 h
        · intro h
          exact ⟨wv_same ((ht1 h).1) ((hh_8 h).trans (congrFun ((ht1 h).1) _)), (ht1 h).2.1, (ht1 h).2.2.1, (ht1 h).2.2.2.1, (ht1 h).2.2.2.2.1, (ht1 h).2.2.2.2.2⟩
        · show _ = (f1_3 105) 133
          rw [hh_6 _ (by omega)]
          exact dn0
        · intro j h0 h1
          show (wv (mx [105, fv 79 51] f1 f1_3) 88 k r_2) 88 j = (f1_3 105) (134 + 1 * j)
          rw [wv_i]
          by_cases e : j = k
          · rw [if_pos e, e]
            rw [hh_5, show f1 (fv 79 51) 0 = 134 + 1 * k by omega]
          · rw [if_neg e, hh_6 _ (by omega)]
            exact cu0 j h0 (by omega)
        · omega
      · refine hO (c_kept (by omega) (show 0 ≤ (f1 (fv 79 51) 0) ∧ (f1 (fv 79 51) 0) < 2400 from by omega) (fun r_9 f1_10 (hh_11 : f1_10 (fv 79 51) 0 = (f1 (fv 79 51) 0) + 1) (hh_12 : r_9 = f1_10 105 (f1 (fv 79 51) 0)) (hh_13 : ∀ j, j < (f1 (fv 79 51) 0) → f1_10 105 j = (f1 105 j)) (hh_14 : (f (fv 79 49) 0) = 0 → f1_10 105 = (f1 105)) (hh_15 : ¬ (f (fv 79 49) 0) = 0 → r_9 = (f1 (fv 79 17) 0)) => ?_))
        refine hF (1263 - 0 : Int).toNat ?_ (Or.inr (Or.inl ⟨rfl, 0, (wv (mx [105, fv 79 51] f1 f1_10) (fv 79 17) 0 r_9), rfl, rfl, (mx_wv rfl (mx_mx rfl rfl)), rfl, ?_, ?_, ?_, ?_, ?_, ?_, ?_, ?_, ?_, ?_⟩))
        · omega
        · omega
        · show f1_10 (fv 79 51) 0 = _
          omega
        · intro j hj
          show (f1_10 105) j = _
          rw [hh_13 _ (by omega)]
          exact hlo j hj
        · intro h
          show (f1_10 105) = _
          rw [hh_14 h]
          exact ht0 h
        · intro h
          exact ⟨(ht1 h).1, (ht1 h).2.1, (ht1 h).2.2.1, (ht1 h).2.2.2.1, (ht1 h).2.2.2.2.1, (hh_15 h).trans ((ht1 h).2.2.2.2.2)⟩
        · show _ = (f1_10 105) 133
          rw [hh_13 _ (by omega)]
          exact dn0
        · intro j h0 h1
          show _ = (f1_10 105) _
          rw [hh_13 _ (by omega)]
          exact cu0 j h0 (by omega)
        · show r_9 = (f1_10 105) 194
          rw [hh_12]
          first | rfl | (rw [show f1 (fv 79 51) 0 = 194 by omega])
        · intro j h0 h1; omega
        · omega
    · obtain ⟨rfl, k, f1, rfl, rfl, rfl, rfl, hk, hqq, hlo, ht0, ht1, dn0, dn1, dn2, cu0, hm⟩ := hI
      refine ⟨fun (hh_16 : k < 20) => ?_, fun (hh_16 : ¬ k < 20) => ?_⟩
      · refine ⟨show 0 ≤ (k : Int) ∧ k < 20 from by omega, ?_⟩
        refine hO (c_kept (by omega) (show 0 ≤ (f1 (fv 79 51) 0) ∧ (f1 (fv 79 51) 0) < 2400 from by omega) (fun r_17 f1_18 (hh_19 : f1_18 (fv 79 51) 0 = (f1 (fv 79 51) 0) + 1) (hh_20 : r_17 = f1_18 105 (f1 (fv 79 51) 0)) (hh_21 : ∀ j, j < (f1 (fv 79 51) 0) → f1_18 105 j = (f1 105 j)) (hh_22 : (f (fv 79 49) 0) = 0 → f1_18 105 = (f1 105)) (hh_23 : ¬ (f (fv 79 49) 0) = 0 → r_17 = (f1 90 k)) => ?_))
        refine ⟨show 0 ≤ (k : Int) ∧ k < 20 from by omega, ?_⟩
        refine ⟨show inr (k + 1) from by constructor <;> omega, ?_⟩
        refine hB (1263 - (k + 1) : Int).toNat ?_ (Or.inr (Or.inl ⟨rfl, (k + 1), (wv (mx [105, fv 79 51] f1 f1_18) 90 k r_17), rfl, rfl, (mx_wv rfl (mx_mx rfl rfl)), rfl, ?_, ?_, ?_, ?_, ?_, ?_, ?_, ?_, ?_, ?_⟩))
        · omega
        · omega
        · show f1_18 (fv 79 51) 0 = _
          omega
        · intro j hj
          show (f1_18 105) j = _
          rw [hh_21 _ (by omega)]
          exact hlo j hj
        · intro h
          show (f1_18 105) = _
          rw [hh_22 h]
          exact ht0 h
        · intro h
          exact ⟨(ht1 h).1, wv_same ((ht1 h).2.1) ((hh_23 h).trans (congrFun ((ht1 h).2.1) _)), (ht1 h).2.2.1, (ht1 h).2.2.2.1, (ht1 h).2.2.2.2.1, (ht1 h).2.2.2.2.2⟩
        · show _ = (f1_18 105) 133
          rw [hh_21 _ (by omega)]
          exact dn0
        · intro j h0 h1
          show _ = (f1_18 105) _
          rw [hh_21 _ (by omega)]
          exact dn1 j h0 h1
        · show _ = (f1_18 105) 194
          rw [hh_21 _ (by omega)]
          exact dn2
        · intro j h0 h1
          show (wv (mx [105, fv 79 51] f1 f1_18) 90 k r_17) 90 j = (f1_18 105) (195 + 1 * j)
          rw [wv_i]
          by_cases e : j = k
          · rw [if_pos e, e]
            rw [hh_20, show f1 (fv 79 51) 0 = 195 + 1 * k by omega]
          · rw [if_neg e, hh_21 _ (by omega)]
            exact cu0 j h0 (by omega)
        · omega
      · refine hF (1242 - 0 : Int).toNat ?_ (Or.inr (Or.inr (Or.inl ⟨rfl, 0, f1, rfl, rfl, rfl, rfl, ?_, ?_, ?_, ?_, ?_, ?_, ?_, ?_, ?_, ?_, ?_⟩)))
        · omega
        · omega
        · show f1 (fv 79 51) 0 = _
          omega
        · intro j hj
          show (f1 105) j = _
          exact hlo j hj
        · intro h
          show (f1 105) = _
          exact ht0 h
        · intro h
          exact ⟨(ht1 h).1, (ht1 h).2.1, (ht1 h).2.2.1, (ht1 h).2.2.2.1, (ht1 h).2.2.2.2.1, (ht1 h).2.2.2.2.2⟩
        · show _ = (f1 105) 133
          exact dn0
        · intro j h0 h1
          show _ = (f1 105) _
          exact dn1 j h0 h1
        · show _ = (f1 105) 194
          exact dn2
        · intro j h0 h1
          show _ = (f1 105) _
          exact cu0 j h0 (by omega)
        · intro j h0 h1; omega
        · omega
    · obtain ⟨rfl, k, f1, rfl, rfl, rfl, rfl, hk, hqq, hlo, ht0, ht1, dn0, dn1, dn2, dn3, cu0, hm⟩ := hI
      refine ⟨fun (hh_24 : k < 240) => ?_, fun (hh_24 : ¬ k < 240) => ?_⟩
      · refine ⟨show 0 ≤ (k : Int) ∧ k < 240 from by omega, ?_⟩
        refine hO (c_kept (by omega) (show 0 ≤ (f1 (fv 79 51) 0) ∧ (f1 (fv 79 51) 0) < 2400 from by omega) (fun r_25 f1_26 (hh_27 : f1_26 (fv 79 51) 0 = (f1 (fv 79 51) 0) + 1) (hh_28 : r_25 = f1_26 105 (f1 (fv 79 51) 0)) (hh_29 : ∀ j, j < (f1 (fv 79 51) 0) → f1_26 105 j = (f1 105 j)) (hh_30 : (f (fv 79 49) 0) = 0 → f1_26 105 = (f1 105)) (hh_31 : ¬ (f (fv 79 49) 0) = 0 → r_25 = (f1 91 k)) => ?_))
        refine ⟨show 0 ≤ (k : Int) ∧ k < 240 from by omega, ?_⟩
        refine ⟨show inr (k + 1) from by constructor <;> omega, ?_⟩
        refine hB (1242 - (k + 1) : Int).toNat ?_ (Or.inr (Or.inr (Or.inl ⟨rfl, (k + 1), (wv (mx [105, fv 79 51] f1 f1_26) 91 k r_25), rfl, rfl, (mx_wv rfl (mx_mx rfl rfl)), rfl, ?_, ?_, ?_, ?_, ?_, ?_, ?_, ?_, ?_, ?_, ?_⟩)))
        · omega
        · omega
        · show f1_26 (fv 79 51) 0 = _
          omega
        · intro j hj
          show (f1_26 105) j = _
          rw [hh_29 _ (by omega)]
          exact hlo j hj
        · intro h
          show (f1_26 105) = _
          rw [hh_30 h]
          exact ht0 h
        · intro h
          exact ⟨(ht1 h).1, (ht1 h).2.1, wv_same ((ht1 h).2.2.1) ((hh_31 h).trans (congrFun ((ht1 h).2.2.1) _)), (ht1 h).2.2.2.1, (ht1 h).2.2.2.2.1, (ht1 h).2.2.2.2.2⟩
        · show _ = (f1_26 105) 133
          rw [hh_29 _ (by omega)]
          exact dn0
        · intro j h0 h1
          show _ = (f1_26 105) _
          rw [hh_29 _ (by omega)]
          exact dn1 j h0 h1
        · show _ = (f1_26 105) 194
          rw [hh_29 _ (by omega)]
          exact dn2
        · intro j h0 h1
          show _ = (f1_26 105) _
          rw [hh_29 _ (by omega)]
          exact dn3 j h0 h1
        · intro j h0 h1
          show (wv (mx [105, fv 79 51] f1 f1_26) 91 k r_25) 91 j = (f1_26 105) (215 + 1 * j)
          rw [wv_i]
          by_cases e : j = k
          · rw [if_pos e, e]
            rw [hh_28, show f1 (fv 79 51) 0 = 215 + 1 * k by omega]
          · rw [if_neg e, hh_29 _ (by omega)]
            exact cu0 j h0 (by omega)
        · omega
      · refine hF (1001 - 0 : Int).toNat ?_ (Or.inr (Or.inr (Or.inr (⟨rfl, 0, f1, rfl, rfl, rfl, rfl, ?_, ?_, ?_, ?_, ?_, ?_, ?_, ?_, ?_, ?_, ?_, ?_⟩))))
        · omega
        · omega
        · show f1 (fv 79 51) 0 = _
          omega
        · intro j hj
          show (f1 105) j = _
          exact hlo j hj
        · intro h
          show (f1 105) = _
          exact ht0 h
        · intro h
          exact ⟨(ht1 h).1, (ht1 h).2.1, (ht1 h).2.2.1, (ht1 h).2.2.2.1, (ht1 h).2.2.2.2.1, (ht1 h).2.2.2.2.2⟩
        · show _ = (f1 105) 133
          exact dn0
        · intro j h0 h1
          show _ = (f1 105) _
          exact dn1 j h0 h1
        · show _ = (f1 105) 194
          exact dn2
        · intro j h0 h1
          show _ = (f1 105) _
          exact dn3 j h0 h1
        · intro j h0 h1
          show _ = (f1 105) _
          exact cu0 j h0 (by omega)
        · intro j h0 h1; omega
        · omega
    · obtain ⟨rfl, k, f1, rfl, rfl, rfl, rfl, hk, hqq, hlo, ht0, ht1, dn0, dn1, dn2, dn3, dn4, cu0, hm⟩ := hI
      refine ⟨fun (hh_32 : k < 1000) => ?_, fun (hh_32 : ¬ k < 1000) => ?_⟩
      · refine ⟨show 0 ≤ (k : Int) ∧ k < 1000 from by omega, ?_⟩
        refine hO (c_kept (by omega) (show 0 ≤ (f1 (fv 79 51) 0) ∧ (f1 (fv 79 51) 0) < 2400 from by omega) (fun r_33 f1_34 (hh_35 : f1_34 (fv 79 51) 0 = (f1 (fv 79 51) 0) + 1) (hh_36 : r_33 = f1_34 105 (f1 (fv 79 51) 0)) (hh_37 : ∀ j, j < (f1 (fv 79 51) 0) → f1_34 105 j = (f1 105 j)) (hh_38 : (f (fv 79 49) 0) = 0 → f1_34 105 = (f1 105)) (hh_39 : ¬ (f (fv 79 49) 0) = 0 → r_33 = (f1 103 k)) => ?_))
        refine ⟨show 0 ≤ (k : Int) ∧ k < 1000 from by omega, ?_⟩
        refine ⟨show inr (k + 1) from by constructor <;> omega, ?_⟩
        refine hB (1001 - (k + 1) : Int).toNat ?_ (Or.inr (Or.inr (Or.inr (⟨rfl, (k + 1), (wv (mx [105, fv 79 51] f1 f1_34) 103 k r_33), rfl, rfl, (mx_wv rfl (mx_mx rfl rfl)), rfl, ?_, ?_, ?_, ?_, ?_, ?_, ?_, ?_, ?_, ?_, ?_, ?_⟩))))
        · omega
        · omega
        · show f1_34 (fv 79 51) 0 = _
          omega
        · intro j hj
          show (f1_34 105) j = _
          rw [hh_37 _ (by omega)]
          exact hlo j hj
        · intro h
          show (f1_34 105) = _
          rw [hh_38 h]
          exact ht0 h
        · intro h
          exact ⟨(ht1 h).1, (ht1 h).2.1, (ht1 h).2.2.1, wv_same ((ht1 h).2.2.2.1) ((hh_39 h).trans (congrFun ((ht1 h).2.2.2.1) _)), (ht1 h).2.2.2.2.1, (ht1 h).2.2.2.2.2⟩
        · show _ = (f1_34 105) 133
          rw [hh_37 _ (by omega)]
          exact dn0
        · intro j h0 h1
          show _ = (f1_34 105) _
          rw [hh_37 _ (by omega)]
          exact dn1 j h0 h1
        · show _ = (f1_34 105) 194
          rw [hh_37 _ (by omega)]
          exact dn2
        · intro j h0 h1
          show _ = (f1_34 105) _
          rw [hh_37 _ (by omega)]
          exact dn3 j h0 h1
        · intro j h0 h1
          show _ = (f1_34 105) _
          rw [hh_37 _ (by omega)]
          exact dn4 j h0 h1
        · intro j h0 h1
          show (wv (mx [105, fv 79 51] f1 f1_34) 103 k r_33) 103 j = (f1_34 105) (455 + 1 * j)
          rw [wv_i]
          by_cases e : j = k
          · rw [if_pos e, e]
            rw [hh_36, show f1 (fv 79 51) 0 = 455 + 1 * k by omega]
          · rw [if_neg e, hh_37 _ (by omega)]
            exact cu0 j h0 (by omega)
        · omega
      · exact k0 f1 (by rw [hqq]; omega) hlo ht0 ht1 dn0 dn1 dn2 dn3 dn4 (fun j h0 h1 => cu0 j h0 (by omega))
  · refine hO (c_kept (by omega) (show 0 ≤ (f (fv 79 51) 0) ∧ (f (fv 79 51) 0) < 2400 from by omega) (fun r_40 f1_41 (hh_42 : f1_41 (fv 79 51) 0 = (f (fv 79 51) 0) + 1) (hh_43 : r_40 = f1_41 105 (f (fv 79 51) 0)) (hh_44 : ∀ j, j < (f (fv 79 51) 0) → f1_41 105 j = (f 105 j)) (hh_45 : (f (fv 79 49) 0) = 0 → f1_41 105 = (f 105)) (hh_46 : ¬ (f (fv 79 49) 0) = 0 → r_40 = (f (fv 79 13) 0)) => ?_))
    refine hF (1324 - 0 : Int).toNat ?_ (Or.inl ⟨rfl, 0, (wv (mx [105, fv 79 51] f f1_41) (fv 79 13) 0 r_40), rfl, rfl, (mx_wv rfl (mx_mx rfl mx_rf)), rfl, ?_, ?_, ?_, ?_, ?_, ?_, ?_, ?_⟩)
    · omega
    · omega
    · show f1_41 (fv 79 51) 0 = _
      omega
    · intro j hj
      show (f1_41 105) j = _
      rw [hh_44 _ (by omega)]
      try rfl
    · intro h
      show (f1_41 105) = _
      rw [hh_45 h]
      first | rfl | skip
    · intro h
      exact ⟨rfl, rfl, rfl, rfl, (hh_46 h).trans (rfl), rfl⟩
    · show r_40 = (f1_41 105) 133
      rw [hh_43]
      first | rfl | (rw [show f (fv 79 51) 0 = 133 by omega])
    · intro j h0 h1; omega
    · omega
set_option maxRecDepth 100000 in
set_option maxHeartbeats 4000000 in
theorem c_keepsLaw (hd : 2 ≤ d) (hq : (f (fv 79 51) 0) = 1455) (k0 : ∀ f1 : iF, (f1 (fv 79 51) 0 = 2304) → (∀ j, j < 1455 → f1 105 j = (f 105 j)) → ((f (fv 79 49) 0) = 0 → f1 105 = (f 105)) → (¬ (f (fv 79 49) 0) = 0 → f1 94 = f 94 ∧ f1 95 = f 95 ∧ f1 96 = f 96 ∧ f1 97 = f 97 ∧ f1 98 = f 98 ∧ f1 (fv 79 27) 0 = f (fv 79 27) 0) → (f1 (fv 79 27) 0 = f1 105 1455) → (∀ j, 0 ≤ j → j < 16 → f1 94 j = f1 105 (1456 + 3 * j)) → (∀ j, 0 ≤ j → j < 16 → f1 95 j = f1 105 (1457 + 3 * j)) → (∀ j, 0 ≤ j → j < 16 → f1 96 j = f1 105 (1458 + 3 * j)) → (∀ j, 0 ≤ j → j < 400 → f1 97 j = f1 105 (1504 + 2 * j)) → (∀ j, 0 ≤ j → j < 400 → f1 98 j = f1 105 (1505 + 2 * j)) → Q none (mx [94, 95, 96, 97, 98, fv 79 27, 105, fv 79 51] f f1) g) : wq d 81 [iR 79] f g Q := by
  obtain ⟨d, rfl⟩ : ∃ e, d = e + 1 := ⟨d - 1, by omega⟩
  refine i_meth [(8, 2), (45, 2)] (fun n j lv st f' g' => (j = 8 ∧ ∃ (k : Int) (f1 : iF), lv = [some (iR 79), some (iI k)] ∧ st = [] ∧ f' = (mx [94, 95, 96, 97, 98, fv 79 27, 105, fv 79 51] f f1) ∧ g = g' ∧ (0 ≤ k ∧ k ≤ 16) ∧ (f1 (fv 79 51) 0 = 1456 + 3 * k) ∧ (∀ j, j < 1455 → f1 105 j = f 105 j) ∧ (f (fv 79 49) 0 = 0 → f1 105 = f 105) ∧ (¬ f (fv 79 49) 0 = 0 → f1 94 = f 94 ∧ f1 95 = f 95 ∧ f1 96 = f 96 ∧ f1 97 = f 97 ∧ f1 98 = f 98 ∧ f1 (fv 79 27) 0 = f (fv 79 27) 0) ∧ (f1 (fv 79 27) 0 = f1 105 1455) ∧ (∀ j, 0 ≤ j → j < k → f1 94 j = f1 105 (1456 + 3 * j)) ∧ (∀ j, 0 ≤ j → j < k → f1 95 j = f1 105 (1457 + 3 * j)) ∧ (∀ j, 0 ≤ j → j < k → f1 96 j = f1 105 (1458 + 3 * j)) ∧ (n : Int) = 418 - k) ∨ (j = 45 ∧ ∃ (k : Int) (f1 : iF), lv = [some (iR 79), some (iI k)] ∧ st = [] ∧ f' = (mx [94, 95, 96, 97, 98, fv 79 27, 105, fv 79 51] f f1) ∧ g = g' ∧ (0 ≤ k ∧ k ≤ 400) ∧ (f1 (fv 79 51) 0 = 1504 + 2 * k) ∧ (∀ j, j < 1455 → f1 105 j = f 105 j) ∧ (f (fv 79 49) 0 = 0 → f1 105 = f 105) ∧ (¬ f (fv 79 49) 0 = 0 → f1 94 = f 94 ∧ f1 95 = f 95 ∧ f1 96 = f 96 ∧ f1 97 = f 97 ∧ f1 98 = f 98 ∧ f1 (fv 79 27) 0 = f (fv 79 27) 0) ∧ (f1 (fv 79 27) 0 = f1 105 1455) ∧ (∀ j, 0 ≤ j → j < 16 → f1 94 j = f1 105 (1456 + 3 * j)) ∧ (∀ j, 0 ≤ j → j < 16 → f1 95 j = f1 105 (1457 + 3 * j)) ∧ (∀ j, 0 ≤ j → j < 16 → f1 96 j = f1 105 (1458 + 3 * j)) ∧ (∀ j, 0 ≤ j → j < k → f1 97 j = f1 105 (1504 + 2 * j)) ∧ (∀ j, 0 ≤ j → j < k → f1 98 j = f1 105 (1505 + 2 * j)) ∧ (n : Int) = 401 - k)) 500 (by omega) rfl rfl (fun n j lv st f' g' hn hI O J hO hF hB => ?_) (fun hvs hin O J hO hF => ?_)
  · rcases hI with hI | hI
    · obtain ⟨rfl, k, f1, rfl, rfl, rfl, rfl, hk, hqq, hlo, ht0, ht1, dn0, cu0, cu1, cu2, hm⟩ := hI
      refine ⟨fun (hh_1 : k < 16) => ?_, fun (hh_1 : ¬ k < 16) => ?_⟩
      · refine ⟨show 0 ≤ (k : Int) ∧ k < 32 from by omega, ?_⟩
        refine hO (c_kept (by omega) (show 0 ≤ (f1 (fv 79 51) 0) ∧ (f1 (fv 79 51) 0) < 2400 from by omega) (fun r_2 f1_3 (hh_4 : f1_3 (fv 79 51) 0 = (f1 (fv 79 51) 0) + 1) (hh_5 : r_2 = f1_3 105 (f1 (fv 79 51) 0)) (hh_6 : ∀ j, j < (f1 (fv 79 51) 0) → f1_3 105 j = (f1 105 j)) (hh_7 : (f (fv 79 49) 0) = 0 → f1_3 105 = (f1 105)) (hh_8 : ¬ (f (fv 79 49) 0) = 0 → r_2 = (f1 94 k)) => ?_))
        refine ⟨show 0 ≤ (k : Int) ∧ k < 32 from by omega, ?_⟩
        refine ⟨show 0 ≤ (k : Int) ∧ k < 32 from by omega, ?_⟩
        refine hO (c_kept (by omega) (show 0 ≤ (f1_3 (fv 79 51) 0) ∧ (f1_3 (fv 79 51) 0) < 2400 from by omega) (fun r_9 f1_10 (hh_11 : f1_10 (fv 79 51) 0 = (f1_3 (fv 79 51) 0) + 1) (hh_12 : r_9 = f1_10 105 (f1_3 (fv 79 51) 0)) (hh_13 : ∀ j, j < (f1_3 (fv 79 51) 0) → f1_10 105 j = (f1_3 105 j)) (hh_14 : (f (fv 79 49) 0) = 0 → f1_10 105 = (f1_3 105)) (hh_15 : ¬ (f (fv 79 49) 0) = 0 → r_9 = (f1 95 k)) => ?_))
        refine ⟨show 0 ≤ (k : Int) ∧ k < 32 from by omega, ?_⟩
        refine ⟨show 0 ≤ (k : Int) ∧ k < 32 from by omega, ?_⟩
        refine hO (c_kept (by omega) (show 0 ≤ (f1_10 (fv 79 51) 0) ∧ (f1_10 (fv 79 51) 0) < 2400 from by omega) (fun r_16 f1_17 (hh_18 : f1_17 (fv 79 51) 0 = (f1_10 (fv 79 51) 0) + 1) (hh_19 : r_16 = f1_17 105 (f1_10 (fv 79 51) 0)) (hh_20 : ∀ j, j < (f1_10 (fv 79 51) 0) → f1_17 105 j = (f1_10 105 j)) (hh_21 : (f (fv 79 49) 0) = 0 → f1_17 105 = (f1_10 105)) (hh_22 : ¬ (f (fv 79 49) 0) = 0 → r_16 = (f1 96 k)) => ?_))
        refine ⟨show 0 ≤ (k : Int) ∧ k < 32 from by omega, ?_⟩
        refine ⟨show inr (k + 1) from by constructor <;> omega, ?_⟩
        refine hB (418 - (k + 1) : Int).toNat ?_ (Or.inl ⟨rfl, (k + 1), (wv (mx [105, fv 79 51] (wv (mx [105, fv 79 51] (wv (mx [105, fv 79 51] f1 f1_3) 94 k r_2) f1_10) 95 k r_9) f1_17) 96 k r_16), rfl, rfl, (mx_wv rfl (mx_mx rfl (mx_wv rfl (mx_mx rfl (mx_wv rfl (mx_mx rfl rfl)))))), rfl, ?_, ?_, ?_, ?_, ?_, ?_, ?_, ?_, ?_, ?_⟩)
        · omega
        · omega
        · show f1_17 (fv 79 51) 0 = _
          omega
        · intro j hj
          show (f1_17 105) j = _
          rw [hh_20 _ (by omega), hh_13 _ (by omega), hh_6 _ (by omega)]
          exact hlo j hj
        · intro h
          show (f1_17 105) = _
          rw [hh_21 h, hh_14 h, hh_7 h]
          exact ht0 h
        · intro h
          exact ⟨wv_same ((ht1 h).1) ((hh_8 h).trans (congrFun ((ht1 h).1) _)), wv_same ((ht1 h).2.1) ((hh_15 h).trans (congrFun ((ht1 h).2.1) _)), wv_same ((ht1 h).2.2.1) ((hh_22 h).trans (congrFun ((ht1 h).2.2.1) _)), (ht1 h).2.2.2.1, (ht1 h).2.2.2.2.1, (ht1 h).2.2.2.2.2⟩
        · show _ = (f1_17 105) 1455
          rw [hh_20 _ (by omega), hh_13 _ (by omega), hh_6 _ (by omega)]
          exact dn0
        · intro j h0 h1
          show (wv (mx [105, fv 79 51] f1 f1_3) 94 k r_2) 94 j = (f1_17 105) (1456 + 3 * j)
          rw [wv_i]
          by_cases e : j = k
          · rw [if_pos e, e]
            rw [hh_20 _ (by omega), hh_13 _ (by omega)]
            rw [hh_5, show f1 (fv 79 51) 0 = 1456 + 3 * k by omega]
          · rw [if_neg e, hh_20 _ (by omega), hh_13 _ (by omega), hh_6 _ (by omega)]
            exact cu0 j h0 (by omega)
        · intro j h0 h1
          show (wv (mx [105, fv 79 51] (wv (mx [105, fv 79 51] f1 f1_3) 94 k r_2) f1_10) 95 k r_9) 95 j = (f1_17 105) (1457 + 3 * j)
          rw [wv_i]
          by_cases e : j = k
          · rw [if_pos e, e]
            rw [hh_20 _ (by omega)]
            rw [hh_12, show f1_3 (fv 79 51) 0 = 1457 + 3 * k by omega]
          · rw [if_neg e, hh_20 _ (by omega), hh_13 _ (by omega), hh_6 _ (by omega)]
            exact cu1 j h0 (by omega)
        · intro j h0 h1
          show (wv (mx [105, fv 79 51] (wv (mx [105, fv 79 51] (wv (mx [105, fv 79 51] f1 f1_3) 94 k r_2) f1_10) 95 k r_9) f1_17) 96 k r_16) 96 j = (f1_17 105) (1458 + 3 * j)
          rw [wv_i]
          by_cases e : j = k
          · rw [if_pos e, e]
            rw [hh_19, show f1_10 (fv 79 51) 0 = 1458 + 3 * k by omega]
          · rw [if_neg e, hh_20 _ (by omega), hh_13 _ (by omega), hh_6 _ (by omega)]
            exact cu2 j h0 (by omega)
        · omega
      · refine hF (401 - 0 : Int).toNat ?_ (Or.inr (⟨rfl, 0, f1, rfl, rfl, rfl, rfl, ?_, ?_, ?_, ?_, ?_, ?_, ?_, ?_, ?_, ?_, ?_, ?_⟩))
        · omega
        · omega
        · show f1 (fv 79 51) 0 = _
          omega
        · intro j hj
          show (f1 105) j = _
          exact hlo j hj
        · intro h
          show (f1 105) = _
          exact ht0 h
        · intro h
          exact ⟨(ht1 h).1, (ht1 h).2.1, (ht1 h).2.2.1, (ht1 h).2.2.2.1, (ht1 h).2.2.2.2.1, (ht1 h).2.2.2.2.2⟩
        · show _ = (f1 105) 1455
          exact dn0
        · intro j h0 h1
          show _ = (f1 105) _
          exact cu0 j h0 (by omega)
        · intro j h0 h1
          show _ = (f1 105) _
          exact cu1 j h0 (by omega)
        · intro j h0 h1
          show _ = (f1 105) _
          exact cu2 j h0 (by omega)
        · intro j h0 h1; omega
        · intro j h0 h1; omega
        · omega
    · obtain ⟨rfl, k, f1, rfl, rfl, rfl, rfl, hk, hqq, hlo, ht0, ht1, dn0, dn1, dn2, dn3, cu0, cu1, hm⟩ := hI
      refine ⟨fun (hh_23 : k < 400) => ?_, fun (hh_23 : ¬ k < 400) => ?_⟩
      · refine ⟨show 0 ≤ (k : Int) ∧ k < 800 from by omega, ?_⟩
        refine hO (c_kept (by omega) (show 0 ≤ (f1 (fv 79 51) 0) ∧ (f1 (fv 79 51) 0) < 2400 from by omega) (fun r_24 f1_25 (hh_26 : f1_25 (fv 79 51) 0 = (f1 (fv 79 51) 0) + 1) (hh_27 : r_24 = f1_25 105 (f1 (fv 79 51) 0)) (hh_28 : ∀ j, j < (f1 (fv 79 51) 0) → f1_25 105 j = (f1 105 j)) (hh_29 : (f (fv 79 49) 0) = 0 → f1_25 105 = (f1 105)) (hh_30 : ¬ (f (fv 79 49) 0) = 0 → r_24 = (f1 97 k)) => ?_))
        refine ⟨show 0 ≤ (k : Int) ∧ k < 800 from by omega, ?_⟩
        refine ⟨show 0 ≤ (k : Int) ∧ k < 800 from by omega, ?_⟩
        refine hO (c_kept (by omega) (show 0 ≤ (f1_25 (fv 79 51) 0) ∧ (f1_25 (fv 79 51) 0) < 2400 from by omega) (fun r_31 f1_32 (hh_33 : f1_32 (fv 79 51) 0 = (f1_25 (fv 79 51) 0) + 1) (hh_34 : r_31 = f1_32 105 (f1_25 (fv 79 51) 0)) (hh_35 : ∀ j, j < (f1_25 (fv 79 51) 0) → f1_32 105 j = (f1_25 105 j)) (hh_36 : (f (fv 79 49) 0) = 0 → f1_32 105 = (f1_25 105)) (hh_37 : ¬ (f (fv 79 49) 0) = 0 → r_31 = (f1 98 k)) => ?_))
        refine ⟨show 0 ≤ (k : Int) ∧ k < 800 from by omega, ?_⟩
        refine ⟨show inr (k + 1) from by constructor <;> omega, ?_⟩
        refine hB (401 - (k + 1) : Int).toNat ?_ (Or.inr (⟨rfl, (k + 1), (wv (mx [105, fv 79 51] (wv (mx [105, fv 79 51] f1 f1_25) 97 k r_24) f1_32) 98 k r_31), rfl, rfl, (mx_wv rfl (mx_mx rfl (mx_wv rfl (mx_mx rfl rfl)))), rfl, ?_, ?_, ?_, ?_, ?_, ?_, ?_, ?_, ?_, ?_, ?_, ?_⟩))
        · omega
        · omega
        · show f1_32 (fv 79 51) 0 = _
          omega
        · intro j hj
          show (f1_32 105) j = _
          rw [hh_35 _ (by omega), hh_28 _ (by omega)]
          exact hlo j hj
        · intro h
          show (f1_32 105) = _
          rw [hh_36 h, hh_29 h]
          exact ht0 h
        · intro h
          exact ⟨(ht1 h).1, (ht1 h).2.1, (ht1 h).2.2.1, wv_same ((ht1 h).2.2.2.1) ((hh_30 h).trans (congrFun ((ht1 h).2.2.2.1) _)), wv_same ((ht1 h).2.2.2.2.1) ((hh_37 h).trans (congrFun ((ht1 h).2.2.2.2.1) _)), (ht1 h).2.2.2.2.2⟩
        · show _ = (f1_32 105) 1455
          rw [hh_35 _ (by omega), hh_28 _ (by omega)]
          exact dn0
        · intro j h0 h1
          show _ = (f1_32 105) _
          rw [hh_35 _ (by omega), hh_28 _ (by omega)]
          exact dn1 j h0 h1
        · intro j h0 h1
          show _ = (f1_32 105) _
          rw [hh_35 _ (by omega), hh_28 _ (by omega)]
          exact dn2 j h0 h1
        · intro j h0 h1
          show _ = (f1_32 105) _
          rw [hh_35 _ (by omega), hh_28 _ (by omega)]
          exact dn3 j h0 h1
        · intro j h0 h1
          show (wv (mx [105, fv 79 51] f1 f1_25) 97 k r_24) 97 j = (f1_32 105) (1504 + 2 * j)
          rw [wv_i]
          by_cases e : j = k
          · rw [if_pos e, e]
            rw [hh_35 _ (by omega)]
            rw [hh_27, show f1 (fv 79 51) 0 = 1504 + 2 * k by omega]
          · rw [if_neg e, hh_35 _ (by omega), hh_28 _ (by omega)]
            exact cu0 j h0 (by omega)
        · intro j h0 h1
          show (wv (mx [105, fv 79 51] (wv (mx [105, fv 79 51] f1 f1_25) 97 k r_24) f1_32) 98 k r_31) 98 j = (f1_32 105) (1505 + 2 * j)
          rw [wv_i]
          by_cases e : j = k
          · rw [if_pos e, e]
            rw [hh_34, show f1_25 (fv 79 51) 0 = 1505 + 2 * k by omega]
          · rw [if_neg e, hh_35 _ (by omega), hh_28 _ (by omega)]
            exact cu1 j h0 (by omega)
        · omega
      · exact k0 f1 (by rw [hqq]; omega) hlo ht0 ht1 dn0 dn1 dn2 dn3 (fun j h0 h1 => cu0 j h0 (by omega)) (fun j h0 h1 => cu1 j h0 (by omega))
  · refine hO (c_kept (by omega) (show 0 ≤ (f (fv 79 51) 0) ∧ (f (fv 79 51) 0) < 2400 from by omega) (fun r_38 f1_39 (hh_40 : f1_39 (fv 79 51) 0 = (f (fv 79 51) 0) + 1) (hh_41 : r_38 = f1_39 105 (f (fv 79 51) 0)) (hh_42 : ∀ j, j < (f (fv 79 51) 0) → f1_39 105 j = (f 105 j)) (hh_43 : (f (fv 79 49) 0) = 0 → f1_39 105 = (f 105)) (hh_44 : ¬ (f (fv 79 49) 0) = 0 → r_38 = (f (fv 79 27) 0)) => ?_))
    refine hF (418 - 0 : Int).toNat ?_ (Or.inl ⟨rfl, 0, (wv (mx [105, fv 79 51] f f1_39) (fv 79 27) 0 r_38), rfl, rfl, (mx_wv rfl (mx_mx rfl mx_rf)), rfl, ?_, ?_, ?_, ?_, ?_, ?_, ?_, ?_, ?_, ?_⟩)
    · omega
    · omega
    · show f1_39 (fv 79 51) 0 = _
      omega
    · intro j hj
      show (f1_39 105) j = _
      rw [hh_42 _ (by omega)]
      try rfl
    · intro h
      show (f1_39 105) = _
      rw [hh_43 h]
      first | rfl | skip
    · intro h
      exact ⟨rfl, rfl, rfl, rfl, rfl, (hh_44 h).trans (rfl)⟩
    · show r_38 = (f1_39 105) 1455
      rw [hh_41]
      first | rfl | (rw [show f (fv 79 51) 0 = 1455 by omega])
    · intro j h0 h1; omega
    · intro j h0 h1; omega
    · intro j h0 h1; omega
    · omega
set_option maxRecDepth 100000 in
set_option maxHeartbeats 4000000 in
theorem c_image {tk : Int} (hd : 3 ≤ d) (htk : tk = 0 ∨ tk = 1) (h5 : (f (fv 79 50) 0) = 0 ∨ (f (fv 79 50) 0) = 1) (k0 : (tk = 0 ∧ (f (fv 79 50) 0) = 0) → Q (some (iI 0)) (wv f (fv 79 0) 0 0) g) (k1 : ∀ f1 : iF, ((f (fv 79 50) 0) = 1 ∨ tk = 1) → (f1 (fv 79 50) 0 = 1) → (tk = 0 → f1 105 = (f 105) ∧ f1 (fv 79 3) 0 = 0) → (tk = 1 → f1 (fv 79 3) 0 = (f (fv 79 3) 0) ∧ f1 80 = (f 80) ∧ f1 82 = (f 82) ∧ f1 83 = (f 83) ∧ f1 84 = (f 84) ∧ f1 85 = (f 85) ∧ f1 86 = (f 86) ∧ f1 87 = (f 87) ∧ f1 (fv 79 4) 0 = (f (fv 79 4) 0) ∧ f1 (fv 79 11) 0 = (f (fv 79 11) 0) ∧ f1 (fv 79 12) 0 = (f (fv 79 12) 0) ∧ f1 88 = (f 88) ∧ f1 90 = (f 90) ∧ f1 91 = (f 91) ∧ f1 103 = (f 103) ∧ f1 (fv 79 13) 0 = (f (fv 79 13) 0) ∧ f1 (fv 79 17) 0 = (f (fv 79 17) 0) ∧ f1 94 = (f 94) ∧ f1 95 = (f 95) ∧ f1 96 = (f 96) ∧ f1 97 = (f 97) ∧ f1 98 = (f 98) ∧ f1 (fv 79 27) 0 = (f (fv 79 27) 0)) → ((∀ j, 0 ≤ j → j < 40 → f1 80 j = f1 105 (0 + 1 * j)) ∧ (f1 (fv 79 4) 0 = f1 105 40) ∧ (∀ j, 0 ≤ j → j < 8 → f1 82 j = f1 105 (41 + 4 * j)) ∧ (∀ j, 0 ≤ j → j < 8 → f1 83 j = f1 105 (42 + 4 * j)) ∧ (∀ j, 0 ≤ j → j < 8 → f1 84 j = f1 105 (43 + 4 * j)) ∧ (∀ j, 0 ≤ j → j < 8 → f1 85 j = f1 105 (44 + 4 * j)) ∧ (∀ j, 0 ≤ j → j < 29 → f1 86 j = f1 105 (73 + 2 * j)) ∧ (∀ j, 0 ≤ j → j < 29 → f1 87 j = f1 105 (74 + 2 * j)) ∧ (f1 (fv 79 11) 0 = f1 105 131) ∧ (f1 (fv 79 12) 0 = f1 105 132)) → ((f1 (fv 79 13) 0 = f1 105 133) ∧ (∀ j, 0 ≤ j → j < 60 → f1 88 j = f1 105 (134 + 1 * j)) ∧ (f1 (fv 79 17) 0 = f1 105 194) ∧ (∀ j, 0 ≤ j → j < 20 → f1 90 j = f1 105 (195 + 1 * j)) ∧ (∀ j, 0 ≤ j → j < 240 → f1 91 j = f1 105 (215 + 1 * j)) ∧ (∀ j, 0 ≤ j → j < 1000 → f1 103 j = f1 105 (455 + 1 * j))) → ((f1 (fv 79 27) 0 = f1 105 1455) ∧ (∀ j, 0 ≤ j → j < 16 → f1 94 j = f1 105 (1456 + 3 * j)) ∧ (∀ j, 0 ≤ j → j < 16 → f1 95 j = f1 105 (1457 + 3 * j)) ∧ (∀ j, 0 ≤ j → j < 16 → f1 96 j = f1 105 (1458 + 3 * j)) ∧ (∀ j, 0 ≤ j → j < 400 → f1 97 j = f1 105 (1504 + 2 * j)) ∧ (∀ j, 0 ≤ j → j < 400 → f1 98 j = f1 105 (1505 + 2 * j))) → Q (some (iI 1)) (mx [80, 82, 83, 84, 85, 86, 87, fv 79 4, fv 79 11, fv 79 12, 88, 90, 91, 103, fv 79 13, fv 79 17, 94, 95, 96, 97, 98, fv 79 27, 105, fv 79 51, fv 79 0, fv 79 49, fv 79 50, fv 79 3] f f1) g) : wq d 83 [iR 79, iI tk] f g Q := by
  obtain ⟨d, rfl⟩ : ∃ e, d = e + 1 := ⟨d - 1, by omega⟩
  refine i_meth [(21, 3), (44, 3), (91, 3)] (fun n j lv st f' g' => (j = 21 ∧ ∃ (k : Int) (f1 : iF), lv = [some (iR 79), some (iI tk), some (iI k)] ∧ st = [] ∧ f' = (mx [80, 82, 83, 84, 85, 86, 87, fv 79 4, fv 79 11, fv 79 12, 105, fv 79 51, fv 79 0, fv 79 49, fv 79 50] f f1) ∧ g = g' ∧ (f (fv 79 50) 0 = 1 ∨ tk = 1) ∧ (f1 (fv 79 49) 0 = tk) ∧ (f1 (fv 79 50) 0 = 1) ∧ (0 ≤ k ∧ k ≤ 40) ∧ (f1 (fv 79 51) 0 = 0 + 1 * k) ∧ (∀ j, j < 0 → f1 105 j = f 105 j) ∧ (tk = 0 → f1 105 = f 105) ∧ (¬ tk = 0 → f1 80 = f 80 ∧ f1 82 = f 82 ∧ f1 83 = f 83 ∧ f1 84 = f 84 ∧ f1 85 = f 85 ∧ f1 86 = f 86 ∧ f1 87 = f 87 ∧ f1 (fv 79 4) 0 = f (fv 79 4) 0 ∧ f1 (fv 79 11) 0 = f (fv 79 11) 0 ∧ f1 (fv 79 12) 0 = f (fv 79 12) 0) ∧ (∀ j, 0 ≤ j → j < k → f1 80 j = f1 105 (0 + 1 * j)) ∧ (n : Int) = 80 - k) ∨ (j = 44 ∧ ∃ (k : Int) (f1 : iF), lv = [some (iR 79), some (iI tk), some (iI k)] ∧ st = [] ∧ f' = (mx [80, 82, 83, 84, 85, 86, 87, fv 79 4, fv 79 11, fv 79 12, 105, fv 79 51, fv 79 0, fv 79 49, fv 79 50] f f1) ∧ g = g' ∧ (f (fv 79 50) 0 = 1 ∨ tk = 1) ∧ (f1 (fv 79 49) 0 = tk) ∧ (f1 (fv 79 50) 0 = 1) ∧ (0 ≤ k ∧ k ≤ 8) ∧ (f1 (fv 79 51) 0 = 41 + 4 * k) ∧ (∀ j, j < 0 → f1 105 j = f 105 j) ∧ (tk = 0 → f1 105 = f 105) ∧ (¬ tk = 0 → f1 80 = f 80 ∧ f1 82 = f 82 ∧ f1 83 = f 83 ∧ f1 84 = f 84 ∧ f1 85 = f 85 ∧ f1 86 = f 86 ∧ f1 87 = f 87 ∧ f1 (fv 79 4) 0 = f (fv 79 4) 0 ∧ f1 (fv 79 11) 0 = f (fv 79 11) 0 ∧ f1 (fv 79 12) 0 = f (fv 79 12) 0) ∧ (∀ j, 0 ≤ j → j < 40 → f1 80 j = f1 105 (0 + 1 * j)) ∧ (f1 (fv 79 4) 0 = f1 105 40) ∧ (∀ j, 0 ≤ j → j < k → f1 82 j = f1 105 (41 + 4 * j)) ∧ (∀ j, 0 ≤ j → j < k → f1 83 j = f1 105 (42 + 4 * j)) ∧ (∀ j, 0 ≤ j → j < k → f1 84 j = f1 105 (43 + 4 * j)) ∧ (∀ j, 0 ≤ j → j < k → f1 85 j = f1 105 (44 + 4 * j)) ∧ (n : Int) = 39 - k) ∨ (j = 91 ∧ ∃ (k : Int) (f1 : iF), lv = [some (iR 79), some (iI tk), some (iI k)] ∧ st = [] ∧ f' = (mx [80, 82, 83, 84, 85, 86, 87, fv 79 4, fv 79 11, fv 79 12, 105, fv 79 51, fv 79 0, fv 79 49, fv 79 50] f f1) ∧ g = g' ∧ (f (fv 79 50) 0 = 1 ∨ tk = 1) ∧ (f1 (fv 79 49) 0 = tk) ∧ (f1 (fv 79 50) 0 = 1) ∧ (0 ≤ k ∧ k ≤ 29) ∧ (f1 (fv 79 51) 0 = 73 + 2 * k) ∧ (∀ j, j < 0 → f1 105 j = f 105 j) ∧ (tk = 0 → f1 105 = f 105) ∧ (¬ tk = 0 → f1 80 = f 80 ∧ f1 82 = f 82 ∧ f1 83 = f 83 ∧ f1 84 = f 84 ∧ f1 85 = f 85 ∧ f1 86 = f 86 ∧ f1 87 = f 87 ∧ f1 (fv 79 4) 0 = f (fv 79 4) 0 ∧ f1 (fv 79 11) 0 = f (fv 79 11) 0 ∧ f1 (fv 79 12) 0 = f (fv 79 12) 0) ∧ (∀ j, 0 ≤ j → j < 40 → f1 80 j = f1 105 (0 + 1 * j)) ∧ (f1 (fv 79 4) 0 = f1 105 40) ∧ (∀ j, 0 ≤ j → j < 8 → f1 82 j = f1 105 (41 + 4 * j)) ∧ (∀ j, 0 ≤ j → j < 8 → f1 83 j = f1 105 (42 + 4 * j)) ∧ (∀ j, 0 ≤ j → j < 8 → f1 84 j = f1 105 (43 + 4 * j)) ∧ (∀ j, 0 ≤ j → j < 8 → f1 85 j = f1 105 (44 + 4 * j)) ∧ (∀ j, 0 ≤ j → j < k → f1 86 j = f1 105 (73 + 2 * j)) ∧ (∀ j, 0 ≤ j → j < k → f1 87 j = f1 105 (74 + 2 * j)) ∧ (n : Int) = 30 - k)) 200 (by omega) rfl rfl (fun n j lv st f' g' hn hI O J hO hF hB => ?_) (fun hvs hin O J hO hF => ?_)
  · rcases hI with hI | hI | hI
    · obtain ⟨rfl, k, f1, rfl, rfl, rfl, rfl, him, h49, h50, hk, hqq, hlo, ht0, ht1, cu0, hm⟩ := hI
      refine ⟨fun (hh_1 : k < 40) => ?_, fun (hh_1 : ¬ k < 40) => ?_⟩
      · refine ⟨show 0 ≤ (k : Int) ∧ k < 40 from by omega, ?_⟩
        refine hO (c_kept (by omega) (show 0 ≤ (f1 (fv 79 51) 0) ∧ (f1 (fv 79 51) 0) < 2400 from by omega) (fun r_2 f1_3 (hh_4 : f1_3 (fv 79 51) 0 = (f1 (fv 79 51) 0) + 1) (hh_5 : r_2 = f1_3 105 (f1 (fv 79 51) 0)) (hh_6 : ∀ j, j < (f1 (fv 79 51) 0) → f1_3 105 j = (f1 105 j)) (hh_7 : (f1 (fv 79 49) 0) = 0 → f1_3 105 = (f1 105)) (hh_8 : ¬ (f1 (fv 79 49) 0) = 0 → r_2 = (f1 80 k)) => ?_))
        refine ⟨show 0 ≤ (k : Int) ∧ k < 40 from by omega, ?_⟩
        refine ⟨show inr (k + 1) from by constructor <;> omega, ?_⟩
        refine hB (80 - (k + 1) : Int).toNat ?_ (Or.inl ⟨rfl, (k + 1), (wv (mx [105, fv 79 51] f1 f1_3) 80 k r_2), rfl, rfl, (mx_wv rfl (mx_mx rfl rfl)), rfl, ?_, ?_, ?_, ?_, ?_, ?_, ?_, ?_, ?_, ?_⟩)
        · omega
        · first | exact him | omega
        · first | exact h49 | rfl
        · first | exact h50 | rfl
        · omega
        · show f1_3 (fv 79 51) 0 = _
          omega
        · intro j hj
          show (f1_3 105) j = _
          rw [hh_6 _ (by omega)]
          exact hlo j hj
        · intro h
          show (f1_3 105) = _
          rw [hh_7 (h49.trans h)]
          exact ht0 h
        · intro h
          exact ⟨wv_same ((ht1 h).1) ((hh_8 (fun e => h (h49.symm.trans e))).trans (congrFun ((ht1 h).1) _)), (ht1 h).2.1, (ht1 h).2.2.1, (ht1 h).2.2.2.1, (ht1 h).2.2.2.2.1, (ht1 h).2.2.2.2.2.1, (ht1 h).2.2.2.2.2.2.1, (ht1 h).2.2.2.2.2.2.2.1, (ht1 h).2.2.2.2.2.2.2.2.1, (ht1 h).2.2.2.2.2.2.2.2.2⟩
        · intro j h0 h1
          show (wv (mx [105, fv 79 51] f1 f1_3) 80 k r_2) 80 j = (f1_3 105) (0 + 1 * j)
          rw [wv_i]
          by_cases e : j = k
          · rw [if_pos e, e]
            rw [hh_5, show f1 (fv 79 51) 0 = 0 + 1 * k by omega]
          · rw [if_neg e, hh_6 _ (by omega)]
            exact cu0 j h0 (by omega)
        · omega
      · refine hO (c_kept (by omega) (show 0 ≤ (f1 (fv 79 51) 0) ∧ (f1 (fv 79 51) 0) < 2400 from by omega) (fun r_9 f1_10 (hh_11 : f1_10 (fv 79 51) 0 = (f1 (fv 79 51) 0) + 1) (hh_12 : r_9 = f1_10 105 (f1 (fv 79 51) 0)) (hh_13 : ∀ j, j < (f1 (fv 79 51) 0) → f1_10 105 j = (f1 105 j)) (hh_14 : (f1 (fv 79 49) 0) = 0 → f1_10 105 = (f1 105)) (hh_15 : ¬ (f1 (fv 79 49) 0) = 0 → r_9 = (f1 (fv 79 4) 0)) => ?_))
        refine hF (39 - 0 : Int).toNat ?_ (Or.inr (Or.inl ⟨rfl, 0, (wv (mx [105, fv 79 51] f1 f1_10) (fv 79 4) 0 r_9), rfl, rfl, (mx_wv rfl (mx_mx rfl rfl)), rfl, ?_, ?_, ?_, ?_, ?_, ?_, ?_, ?_, ?_, ?_, ?_, ?_, ?_, ?_, ?_⟩))
        · omega
        · first | exact him | omega
        · first | exact h49 | rfl
        · first | exact h50 | rfl
        · omega
        · show f1_10 (fv 79 51) 0 = _
          omega
        · intro j hj
          show (f1_10 105) j = _
          rw [hh_13 _ (by omega)]
          exact hlo j hj
        · intro h
          show (f1_10 105) = _
          rw [hh_14 (h49.trans h)]
          exact ht0 h
        · intro h
          exact ⟨(ht1 h).1, (ht1 h).2.1, (ht1 h).2.2.1, (ht1 h).2.2.2.1, (ht1 h).2.2.2.2.1, (ht1 h).2.2.2.2.2.1, (ht1 h).2.2.2.2.2.2.1, (hh_15 (fun e => h (h49.symm.trans e))).trans ((ht1 h).2.2.2.2.2.2.2.1), (ht1 h).2.2.2.2.2.2.2.2.1, (ht1 h).2.2.2.2.2.2.2.2.2⟩
        · intro j h0 h1
          show _ = (f1_10 105) _
          rw [hh_13 _ (by omega)]
          exact cu0 j h0 (by omega)
        · show r_9 = (f1_10 105) 40
          rw [hh_12]
          first | rfl | (rw [show f1 (fv 79 51) 0 = 40 by omega])
        · intro j h0 h1; omega
        · intro j h0 h1; omega
        · intro j h0 h1; omega
        · intro j h0 h1; omega
        · omega
    · obtain ⟨rfl, k, f1, rfl, rfl, rfl, rfl, him, h49, h50, hk, hqq, hlo, ht0, ht1, dn0, dn1, cu0, cu1, cu2, cu3, hm⟩ := hI
      refine ⟨fun (hh_16 : k < 8) => ?_, fun (hh_16 : ¬ k < 8) => ?_⟩
      · refine ⟨show 0 ≤ (k : Int) ∧ k < 8 from by omega, ?_⟩
        refine hO (c_kept (by omega) (show 0 ≤ (f1 (fv 79 51) 0) ∧ (f1 (fv 79 51) 0) < 2400 from by omega) (fun r_17 f1_18 (hh_19 : f1_18 (fv 79 51) 0 = (f1 (fv 79 51) 0) + 1) (hh_20 : r_17 = f1_18 105 (f1 (fv 79 51) 0)) (hh_21 : ∀ j, j < (f1 (fv 79 51) 0) → f1_18 105 j = (f1 105 j)) (hh_22 : (f1 (fv 79 49) 0) = 0 → f1_18 105 = (f1 105)) (hh_23 : ¬ (f1 (fv 79 49) 0) = 0 → r_17 = (f1 82 k)) => ?_))
        refine ⟨show 0 ≤ (k : Int) ∧ k < 8 from by omega, ?_⟩
        refine ⟨show 0 ≤ (k : Int) ∧ k < 8 from by omega, ?_⟩
        refine hO (c_kept (by omega) (show 0 ≤ (f1_18 (fv 79 51) 0) ∧ (f1_18 (fv 79 51) 0) < 2400 from by omega) (fun r_24 f1_25 (hh_26 : f1_25 (fv 79 51) 0 = (f1_18 (fv 79 51) 0) + 1) (hh_27 : r_24 = f1_25 105 (f1_18 (fv 79 51) 0)) (hh_28 : ∀ j, j < (f1_18 (fv 79 51) 0) → f1_25 105 j = (f1_18 105 j)) (hh_29 : (f1 (fv 79 49) 0) = 0 → f1_25 105 = (f1_18 105)) (hh_30 : ¬ (f1 (fv 79 49) 0) = 0 → r_24 = (f1 83 k)) => ?_))
        refine ⟨show 0 ≤ (k : Int) ∧ k < 8 from by omega, ?_⟩
        refine ⟨show 0 ≤ (k : Int) ∧ k < 8 from by omega, ?_⟩
        refine hO (c_kept (by omega) (show 0 ≤ (f1_25 (fv 79 51) 0) ∧ (f1_25 (fv 79 51) 0) < 2400 from by omega) (fun r_31 f1_32 (hh_33 : f1_32 (fv 79 51) 0 = (f1_25 (fv 79 51) 0) + 1) (hh_34 : r_31 = f1_32 105 (f1_25 (fv 79 51) 0)) (hh_35 : ∀ j, j < (f1_25 (fv 79 51) 0) → f1_32 105 j = (f1_25 105 j)) (hh_36 : (f1 (fv 79 49) 0) = 0 → f1_32 105 = (f1_25 105)) (hh_37 : ¬ (f1 (fv 79 49) 0) = 0 → r_31 = (f1 84 k)) => ?_))
        refine ⟨show 0 ≤ (k : Int) ∧ k < 8 from by omega, ?_⟩
        refine ⟨show 0 ≤ (k : Int) ∧ k < 8 from by omega, ?_⟩
        refine hO (c_kept (by omega) (show 0 ≤ (f1_32 (fv 79 51) 0) ∧ (f1_32 (fv 79 51) 0) < 2400 from by omega) (fun r_38 f1_39 (hh_40 : f1_39 (fv 79 51) 0 = (f1_32 (fv 79 51) 0) + 1) (hh_41 : r_38 = f1_39 105 (f1_32 (fv 79 51) 0)) (hh_42 : ∀ j, j < (f1_32 (fv 79 51) 0) → f1_39 105 j = (f1_32 105 j)) (hh_43 : (f1 (fv 79 49) 0) = 0 → f1_39 105 = (f1_32 105)) (hh_44 : ¬ (f1 (fv 79 49) 0) = 0 → r_38 = (f1 85 k)) => ?_))
        refine ⟨show 0 ≤ (k : Int) ∧ k < 8 from by omega, ?_⟩
        refine ⟨show inr (k + 1) from by constructor <;> omega, ?_⟩
        refine hB (39 - (k + 1) : Int).toNat ?_ (Or.inr (Or.inl ⟨rfl, (k + 1), (wv (mx [105, fv 79 51] (wv (mx [105, fv 79 51] (wv (mx [105, fv 79 51] (wv (mx [105, fv 79 51] f1 f1_18) 82 k r_17) f1_25) 83 k r_24) f1_32) 84 k r_31) f1_39) 85 k r_38), rfl, rfl, (mx_wv rfl (mx_mx rfl (mx_wv rfl (mx_mx rfl (mx_wv rfl (mx_mx rfl (mx_wv rfl (mx_mx rfl rfl)))))))), rfl, ?_, ?_, ?_, ?_, ?_, ?_, ?_, ?_, ?_, ?_, ?_, ?_, ?_, ?_, ?_⟩))
        · omega
        · first | exact him | omega
        · first | exact h49 | rfl
        · first | exact h50 | rfl
        · omega
        · show f1_39 (fv 79 51) 0 = _
          omega
        · intro j hj
          show (f1_39 105) j = _
          rw [hh_42 _ (by omega), hh_35 _ (by omega), hh_28 _ (by omega), hh_21 _ (by omega)]
          exact hlo j hj
        · intro h
          show (f1_39 105) = _
          rw [hh_43 (h49.trans h), hh_36 (h49.trans h), hh_29 (h49.trans h), hh_22 (h49.trans h)]
          exact ht0 h
        · intro h
          exact ⟨(ht1 h).1, wv_same ((ht1 h).2.1) ((hh_23 (fun e => h (h49.symm.trans e))).trans (congrFun ((ht1 h).2.1) _)), wv_same ((ht1 h).2.2.1) ((hh_30 (fun e => h (h49.symm.trans e))).trans (congrFun ((ht1 h).2.2.1) _)), wv_same ((ht1 h).2.2.2.1) ((hh_37 (fun e => h (h49.symm.trans e))).trans (congrFun ((ht1 h).2.2.2.1) _)), wv_same ((ht1 h).2.2.2.2.1) ((hh_44 (fun e => h (h49.symm.trans e))).trans (congrFun ((ht1 h).2.2.2.2.1) _)), (ht1 h).2.2.2.2.2.1, (ht1 h).2.2.2.2.2.2.1, (ht1 h).2.2.2.2.2.2.2.1, (ht1 h).2.2.2.2.2.2.2.2.1, (ht1 h).2.2.2.2.2.2.2.2.2⟩
        · intro j h0 h1
          show _ = (f1_39 105) _
          rw [hh_42 _ (by omega), hh_35 _ (by omega), hh_28 _ (by omega), hh_21 _ (by omega)]
          exact dn0 j h0 h1
        · show _ = (f1_39 105) 40
          rw [hh_42 _ (by omega), hh_35 _ (by omega), hh_28 _ (by omega), hh_21 _ (by omega)]
          exact dn1
        · intro j h0 h1
          show (wv (mx [105, fv 79 51] f1 f1_18) 82 k r_17) 82 j = (f1_39 105) (41 + 4 * j)
          rw [wv_i]
          by_cases e : j = k
          · rw [if_pos e, e]
            rw [hh_42 _ (by omega), hh_35 _ (by omega), hh_28 _ (by omega)]
            rw [hh_20, show f1 (fv 79 51) 0 = 41 + 4 * k by omega]
          · rw [if_neg e, hh_42 _ (by omega), hh_35 _ (by omega), hh_28 _ (by omega), hh_21 _ (by omega)]
            exact cu0 j h0 (by omega)
        · intro j h0 h1
          show (wv (mx [105, fv 79 51] (wv (mx [105, fv 79 51] f1 f1_18) 82 k r_17) f1_25) 83 k r_24) 83 j = (f1_39 105) (42 + 4 * j)
          rw [wv_i]
          by_cases e : j = k
          · rw [if_pos e, e]
            rw [hh_42 _ (by omega), hh_35 _ (by omega)]
            rw [hh_27, show f1_18 (fv 79 51) 0 = 42 + 4 * k by omega]
          · rw [if_neg e, hh_42 _ (by omega), hh_35 _ (by omega), hh_28 _ (by omega), hh_21 _ (by omega)]
            exact cu1 j h0 (by omega)
        · intro j h0 h1
          show (wv (mx [105, fv 79 51] (wv (mx [105, fv 79 51] (wv (mx [105, fv 79 51] f1 f1_18) 82 k r_17) f1_25) 83 k r_24) f1_32) 84 k r_31) 84 j = (f1_39 105) (43 + 4 * j)
          rw [wv_i]
          by_cases e : j = k
          · rw [if_pos e, e]
            rw [hh_42 _ (by omega)]
            rw [hh_34, show f1_25 (fv 79 51) 0 = 43 + 4 * k by omega]
          · rw [if_neg e, hh_42 _ (by omega), hh_35 _ (by omega), hh_28 _ (by omega), hh_21 _ (by omega)]
            exact cu2 j h0 (by omega)
        · intro j h0 h1
          show (wv (mx [105, fv 79 51] (wv (mx [105, fv 79 51] (wv (mx [105, fv 79 51] (wv (mx [105, fv 79 51] f1 f1_18) 82 k r_17) f1_25) 83 k r_24) f1_32) 84 k r_31) f1_39) 85 k r_38) 85 j = (f1_39 105) (44 + 4 * j)
          rw [wv_i]
          by_cases e : j = k
          · rw [if_pos e, e]
            rw [hh_41, show f1_32 (fv 79 51) 0 = 44 + 4 * k by omega]
          · rw [if_neg e, hh_42 _ (by omega), hh_35 _ (by omega), hh_28 _ (by omega), hh_21 _ (by omega)]
            exact cu3 j h0 (by omega)
        · omega
      · refine hF (30 - 0 : Int).toNat ?_ (Or.inr (Or.inr (⟨rfl, 0, f1, rfl, rfl, rfl, rfl, ?_, ?_, ?_, ?_, ?_, ?_, ?_, ?_, ?_, ?_, ?_, ?_, ?_, ?_, ?_, ?_, ?_⟩)))
        · omega
        · first | exact him | omega
        · first | exact h49 | rfl
        · first | exact h50 | rfl
        · omega
        · show f1 (fv 79 51) 0 = _
          omega
        · intro j hj
          show (f1 105) j = _
          exact hlo j hj
        · intro h
          show (f1 105) = _
          exact ht0 h
        · intro h
          exact ⟨(ht1 h).1, (ht1 h).2.1, (ht1 h).2.2.1, (ht1 h).2.2.2.1, (ht1 h).2.2.2.2.1, (ht1 h).2.2.2.2.2.1, (ht1 h).2.2.2.2.2.2.1, (ht1 h).2.2.2.2.2.2.2.1, (ht1 h).2.2.2.2.2.2.2.2.1, (ht1 h).2.2.2.2.2.2.2.2.2⟩
        · intro j h0 h1
          show _ = (f1 105) _
          exact dn0 j h0 h1
        · show _ = (f1 105) 40
          exact dn1
        · intro j h0 h1
          show _ = (f1 105) _
          exact cu0 j h0 (by omega)
        · intro j h0 h1
          show _ = (f1 105) _
          exact cu1 j h0 (by omega)
        · intro j h0 h1
          show _ = (f1 105) _
          exact cu2 j h0 (by omega)
        · intro j h0 h1
          show _ = (f1 105) _
          exact cu3 j h0 (by omega)
        · intro j h0 h1; omega
        · intro j h0 h1; omega
        · omega
    · obtain ⟨rfl, k, f1, rfl, rfl, rfl, rfl, him, h49, h50, hk, hqq, hlo, ht0, ht1, dn0, dn1, dn2, dn3, dn4, dn5, cu0, cu1, hm⟩ := hI
      refine ⟨fun (hh_45 : k < 29) => ?_, fun (hh_45 : ¬ k < 29) => ?_⟩
      · refine ⟨show 0 ≤ (k : Int) ∧ k < 29 from by omega, ?_⟩
        refine hO (c_kept (by omega) (show 0 ≤ (f1 (fv 79 51) 0) ∧ (f1 (fv 79 51) 0) < 2400 from by omega) (fun r_46 f1_47 (hh_48 : f1_47 (fv 79 51) 0 = (f1 (fv 79 51) 0) + 1) (hh_49 : r_46 = f1_47 105 (f1 (fv 79 51) 0)) (hh_50 : ∀ j, j < (f1 (fv 79 51) 0) → f1_47 105 j = (f1 105 j)) (hh_51 : (f1 (fv 79 49) 0) = 0 → f1_47 105 = (f1 105)) (hh_52 : ¬ (f1 (fv 79 49) 0) = 0 → r_46 = (f1 86 k)) => ?_))
        refine ⟨show 0 ≤ (k : Int) ∧ k < 29 from by omega, ?_⟩
        refine ⟨show 0 ≤ (k : Int) ∧ k < 29 from by omega, ?_⟩
        refine hO (c_kept (by omega) (show 0 ≤ (f1_47 (fv 79 51) 0) ∧ (f1_47 (fv 79 51) 0) < 2400 from by omega) (fun r_53 f1_54 (hh_55 : f1_54 (fv 79 51) 0 = (f1_47 (fv 79 51) 0) + 1) (hh_56 : r_53 = f1_54 105 (f1_47 (fv 79 51) 0)) (hh_57 : ∀ j, j < (f1_47 (fv 79 51) 0) → f1_54 105 j = (f1_47 105 j)) (hh_58 : (f1 (fv 79 49) 0) = 0 → f1_54 105 = (f1_47 105)) (hh_59 : ¬ (f1 (fv 79 49) 0) = 0 → r_53 = (f1 87 k)) => ?_))
        refine ⟨show 0 ≤ (k : Int) ∧ k < 29 from by omega, ?_⟩
        refine ⟨show inr (k + 1) from by constructor <;> omega, ?_⟩
        refine hB (30 - (k + 1) : Int).toNat ?_ (Or.inr (Or.inr (⟨rfl, (k + 1), (wv (mx [105, fv 79 51] (wv (mx [105, fv 79 51] f1 f1_47) 86 k r_46) f1_54) 87 k r_53), rfl, rfl, (mx_wv rfl (mx_mx rfl (mx_wv rfl (mx_mx rfl rfl)))), rfl, ?_, ?_, ?_, ?_, ?_, ?_, ?_, ?_, ?_, ?_, ?_, ?_, ?_, ?_, ?_, ?_, ?_⟩)))
        · omega
        · first | exact him | omega
        · first | exact h49 | rfl
        · first | exact h50 | rfl
        · omega
        · show f1_54 (fv 79 51) 0 = _
          omega
        · intro j hj
          show (f1_54 105) j = _
          rw [hh_57 _ (by omega), hh_50 _ (by omega)]
          exact hlo j hj
        · intro h
          show (f1_54 105) = _
          rw [hh_58 (h49.trans h), hh_51 (h49.trans h)]
          exact ht0 h
        · intro h
          exact ⟨(ht1 h).1, (ht1 h).2.1, (ht1 h).2.2.1, (ht1 h).2.2.2.1, (ht1 h).2.2.2.2.1, wv_same ((ht1 h).2.2.2.2.2.1) ((hh_52 (fun e => h (h49.symm.trans e))).trans (congrFun ((ht1 h).2.2.2.2.2.1) _)), wv_same ((ht1 h).2.2.2.2.2.2.1) ((hh_59 (fun e => h (h49.symm.trans e))).trans (congrFun ((ht1 h).2.2.2.2.2.2.1) _)), (ht1 h).2.2.2.2.2.2.2.1, (ht1 h).2.2.2.2.2.2.2.2.1, (ht1 h).2.2.2.2.2.2.2.2.2⟩
        · intro j h0 h1
          show _ = (f1_54 105) _
          rw [hh_57 _ (by omega), hh_50 _ (by omega)]
          exact dn0 j h0 h1
        · show _ = (f1_54 105) 40
          rw [hh_57 _ (by omega), hh_50 _ (by omega)]
          exact dn1
        · intro j h0 h1
          show _ = (f1_54 105) _
          rw [hh_57 _ (by omega), hh_50 _ (by omega)]
          exact dn2 j h0 h1
        · intro j h0 h1
          show _ = (f1_54 105) _
          rw [hh_57 _ (by omega), hh_50 _ (by omega)]
          exact dn3 j h0 h1
        · intro j h0 h1
          show _ = (f1_54 105) _
          rw [hh_57 _ (by omega), hh_50 _ (by omega)]
          exact dn4 j h0 h1
        · intro j h0 h1
          show _ = (f1_54 105) _
          rw [hh_57 _ (by omega), hh_50 _ (by omega)]
          exact dn5 j h0 h1
        · intro j h0 h1
          show (wv (mx [105, fv 79 51] f1 f1_47) 86 k r_46) 86 j = (f1_54 105) (73 + 2 * j)
          rw [wv_i]
          by_cases e : j = k
          · rw [if_pos e, e]
            rw [hh_57 _ (by omega)]
            rw [hh_49, show f1 (fv 79 51) 0 = 73 + 2 * k by omega]
          · rw [if_neg e, hh_57 _ (by omega), hh_50 _ (by omega)]
            exact cu0 j h0 (by omega)
        · intro j h0 h1
          show (wv (mx [105, fv 79 51] (wv (mx [105, fv 79 51] f1 f1_47) 86 k r_46) f1_54) 87 k r_53) 87 j = (f1_54 105) (74 + 2 * j)
          rw [wv_i]
          by_cases e : j = k
          · rw [if_pos e, e]
            rw [hh_56, show f1_47 (fv 79 51) 0 = 74 + 2 * k by omega]
          · rw [if_neg e, hh_57 _ (by omega), hh_50 _ (by omega)]
            exact cu1 j h0 (by omega)
        · omega
      · refine hO (c_kept (by omega) (show 0 ≤ (f1 (fv 79 51) 0) ∧ (f1 (fv 79 51) 0) < 2400 from by omega) (fun r_60 f1_61 (hh_62 : f1_61 (fv 79 51) 0 = (f1 (fv 79 51) 0) + 1) (hh_63 : r_60 = f1_61 105 (f1 (fv 79 51) 0)) (hh_64 : ∀ j, j < (f1 (fv 79 51) 0) → f1_61 105 j = (f1 105 j)) (hh_65 : (f1 (fv 79 49) 0) = 0 → f1_61 105 = (f1 105)) (hh_66 : ¬ (f1 (fv 79 49) 0) = 0 → r_60 = (f1 (fv 79 11) 0)) => ?_))
        refine hO (c_kept (by omega) (show 0 ≤ (f1_61 (fv 79 51) 0) ∧ (f1_61 (fv 79 51) 0) < 2400 from by omega) (fun r_67 f1_68 (hh_69 : f1_68 (fv 79 51) 0 = (f1_61 (fv 79 51) 0) + 1) (hh_70 : r_67 = f1_68 105 (f1_61 (fv 79 51) 0)) (hh_71 : ∀ j, j < (f1_61 (fv 79 51) 0) → f1_68 105 j = (f1_61 105 j)) (hh_72 : (f1 (fv 79 49) 0) = 0 → f1_68 105 = (f1_61 105)) (hh_73 : ¬ (f1 (fv 79 49) 0) = 0 → r_67 = (f1 (fv 79 12) 0)) => ?_))
        refine hO (c_keepsRows (by omega) (show (f1_68 (fv 79 51) 0) = 133 from by omega) (fun f1_74 (hh_75 : f1_74 (fv 79 51) 0 = 1455) (hh_76 : ∀ j, j < 133 → f1_74 105 j = (f1_68 105 j)) (hh_77 : (f1 (fv 79 49) 0) = 0 → f1_74 105 = (f1_68 105)) (hh_78 : ¬ (f1 (fv 79 49) 0) = 0 → f1_74 88 = f 88 ∧ f1_74 90 = f 90 ∧ f1_74 91 = f 91 ∧ f1_74 103 = f 103 ∧ f1_74 (fv 79 13) 0 = f (fv 79 13) 0 ∧ f1_74 (fv 79 17) 0 = f (fv 79 17) 0) (hh_79 : f1_74 (fv 79 13) 0 = f1_74 105 133) (hh_80 : ∀ j, 0 ≤ j → j < 60 → f1_74 88 j = f1_74 105 (134 + 1 * j)) (hh_81 : f1_74 (fv 79 17) 0 = f1_74 105 194) (hh_82 : ∀ j, 0 ≤ j → j < 20 → f1_74 90 j = f1_74 105 (195 + 1 * j)) (hh_83 : ∀ j, 0 ≤ j → j < 240 → f1_74 91 j = f1_74 105 (215 + 1 * j)) (hh_84 : ∀ j, 0 ≤ j → j < 1000 → f1_74 103 j = f1_74 105 (455 + 1 * j)) => ?_))
        refine hO (c_keepsLaw (by omega) (show (f1_74 (fv 79 51) 0) = 1455 from by omega) (fun f1_85 (hh_86 : f1_85 (fv 79 51) 0 = 2304) (hh_87 : ∀ j, j < 1455 → f1_85 105 j = (f1_74 105 j)) (hh_88 : (f1 (fv 79 49) 0) = 0 → f1_85 105 = (f1_74 105)) (hh_89 : ¬ (f1 (fv 79 49) 0) = 0 → f1_85 94 = f 94 ∧ f1_85 95 = f 95 ∧ f1_85 96 = f 96 ∧ f1_85 97 = f 97 ∧ f1_85 98 = f 98 ∧ f1_85 (fv 79 27) 0 = f (fv 79 27) 0) (hh_90 : f1_85 (fv 79 27) 0 = f1_85 105 1455) (hh_91 : ∀ j, 0 ≤ j → j < 16 → f1_85 94 j = f1_85 105 (1456 + 3 * j)) (hh_92 : ∀ j, 0 ≤ j → j < 16 → f1_85 95 j = f1_85 105 (1457 + 3 * j)) (hh_93 : ∀ j, 0 ≤ j → j < 16 → f1_85 96 j = f1_85 105 (1458 + 3 * j)) (hh_94 : ∀ j, 0 ≤ j → j < 400 → f1_85 97 j = f1_85 105 (1504 + 2 * j)) (hh_95 : ∀ j, 0 ≤ j → j < 400 → f1_85 98 j = f1_85 105 (1505 + 2 * j)) => ?_))
        refine ⟨fun (hh_96 : tk = 0) => ?_, fun (hh_96 : ¬ tk = 0) => ?_⟩
        · refine ⟨show (1 : Int) = 0 ∨ 1 = 1 from by decide, ?_⟩
          have hk := k1 (wv (mx [94, 95, 96, 97, 98, fv 79 27, 105, fv 79 51] (mx [88, 90, 91, 103, fv 79 13, fv 79 17, 105, fv 79 51] (wv (mx [105, fv 79 51] (wv (mx [105, fv 79 51] (mx [80, 82, 83, 84, 85, 86, 87, fv 79 4, fv 79 11, fv 79 12, 105, fv 79 51, fv 79 0, fv 79 49, fv 79 50] f f1) f1_61) (fv 79 11) 0 r_60) f1_68) (fv 79 12) 0 r_67) f1_74) f1_85) (fv 79 3) 0 0) him h50 (fun h => ⟨by show f1_85 105 = f 105; rw [hh_88 (h49.trans h), hh_77 (h49.trans h), hh_72 (h49.trans h), hh_65 (h49.trans h)]; exact ht0 h, rfl⟩) (fun h => by
            have hn : ¬ tk = 0 := by omega
            have hn2 : ¬ f1 (fv 79 49) 0 = 0 := by rw [h49]; exact hn
            exact ⟨absurd ‹tk = 0› hn, (ht1 hn).1, (ht1 hn).2.1, (ht1 hn).2.2.1, (ht1 hn).2.2.2.1, (ht1 hn).2.2.2.2.1, (ht1 hn).2.2.2.2.2.1, (ht1 hn).2.2.2.2.2.2.1, (ht1 hn).2.2.2.2.2.2.2.1, ((hh_66 hn2).trans ((ht1 hn).2.2.2.2.2.2.2.2.1)), ((hh_73 hn2).trans ((ht1 hn).2.2.2.2.2.2.2.2.2)), (hh_78 hn2).1, (hh_78 hn2).2.1, (hh_78 hn2).2.2.1, (hh_78 hn2).2.2.2.1, (hh_78 hn2).2.2.2.2.1, (hh_78 hn2).2.2.2.2.2, (hh_89 hn2).1, (hh_89 hn2).2.1, (hh_89 hn2).2.2.1, (hh_89 hn2).2.2.2.1, (hh_89 hn2).2.2.2.2.1, (hh_89 hn2).2.2.2.2.2⟩) ⟨(fun j h0 h1 => by show _ = f1_85 105 _; rw [hh_87 _ (by omega), hh_76 _ (by omega), hh_71 _ (by omega), hh_64 _ (by omega)]; exact dn0 j h0 h1), (by show _ = f1_85 105 40; rw [hh_87 _ (by omega), hh_76 _ (by omega), hh_71 _ (by omega), hh_64 _ (by omega)]; exact dn1), (fun j h0 h1 => by show _ = f1_85 105 _; rw [hh_87 _ (by omega), hh_76 _ (by omega), hh_71 _ (by omega), hh_64 _ (by omega)]; exact dn2 j h0 h1), (fun j h0 h1 => by show _ = f1_85 105 _; rw [hh_87 _ (by omega), hh_76 _ (by omega), hh_71 _ (by omega), hh_64 _ (by omega)]; exact dn3 j h0 h1), (fun j h0 h1 => by show _ = f1_85 105 _; rw [hh_87 _ (by omega), hh_76 _ (by omega), hh_71 _ (by omega), hh_64 _ (by omega)]; exact dn4 j h0 h1), (fun j h0 h1 => by show _ = f1_85 105 _; rw [hh_87 _ (by omega), hh_76 _ (by omega), hh_71 _ (by omega), hh_64 _ (by omega)]; exact dn5 j h0 h1), (fun j h0 h1 => by show _ = f1_85 105 _; rw [hh_87 _ (by omega), hh_76 _ (by omega), hh_71 _ (by omega), hh_64 _ (by omega)]; exact cu0 j h0 (by omega)), (fun j h0 h1 => by show _ = f1_85 105 _; rw [hh_87 _ (by omega), hh_76 _ (by omega), hh_71 _ (by omega), hh_64 _ (by omega)]; exact cu1 j h0 (by omega)), (by show r_60 = f1_85 105 131; rw [hh_87 _ (by omega), hh_76 _ (by omega), hh_71 _ (by omega), hh_63, show f1 (fv 79 51) 0 = 131 by omega]), (by show r_67 = f1_85 105 132; rw [hh_87 _ (by omega), hh_76 _ (by omega), hh_70, show f1_61 (fv 79 51) 0 = 132 by omega])⟩ ⟨(by show _ = f1_85 105 133; rw [hh_87 _ (by omega)]; exact hh_79), (fun j h0 h1 => by show _ = f1_85 105 _; rw [hh_87 _ (by omega)]; exact hh_80 j h0 h1), (by show _ = f1_85 105 194; rw [hh_87 _ (by omega)]; exact hh_81), (fun j h0 h1 => by show _ = f1_85 105 _; rw [hh_87 _ (by omega)]; exact hh_82 j h0 h1), (fun j h0 h1 => by show _ = f1_85 105 _; rw [hh_87 _ (by omega)]; exact hh_83 j h0 h1), (fun j h0 h1 => by show _ = f1_85 105 _; rw [hh_87 _ (by omega)]; exact hh_84 j h0 h1)⟩ ⟨hh_90, hh_91, hh_92, hh_93, hh_94, hh_95⟩
          rw [show mx [80, 82, 83, 84, 85, 86, 87, fv 79 4, fv 79 11, fv 79 12, 88, 90, 91, 103, fv 79 13, fv 79 17, 94, 95, 96, 97, 98, fv 79 27, 105, fv 79 51, fv 79 0, fv 79 49, fv 79 50, fv 79 3] f (wv (mx [94, 95, 96, 97, 98, fv 79 27, 105, fv 79 51] (mx [88, 90, 91, 103, fv 79 13, fv 79 17, 105, fv 79 51] (wv (mx [105, fv 79 51] (wv (mx [105, fv 79 51] (mx [80, 82, 83, 84, 85, 86, 87, fv 79 4, fv 79 11, fv 79 12, 105, fv 79 51, fv 79 0, fv 79 49, fv 79 50] f f1) f1_61) (fv 79 11) 0 r_60) f1_68) (fv 79 12) 0 r_67) f1_74) f1_85) (fv 79 3) 0 0) = (wv (mx [94, 95, 96, 97, 98, fv 79 27, 105, fv 79 51] (mx [88, 90, 91, 103, fv 79 13, fv 79 17, 105, fv 79 51] (wv (mx [105, fv 79 51] (wv (mx [105, fv 79 51] (mx [80, 82, 83, 84, 85, 86, 87, fv 79 4, fv 79 11, fv 79 12, 105, fv 79 51, fv 79 0, fv 79 49, fv 79 50] f f1) f1_61) (fv 79 11) 0 r_60) f1_68) (fv 79 12) 0 r_67) f1_74) f1_85) (fv 79 3) 0 0) from ((mx_wv rfl (mx_mx rfl (mx_mx rfl (mx_wv rfl (mx_mx rfl (mx_wv rfl (mx_mx rfl (mx_mx rfl mx_rf))))))))).symm] at hk
          exact hk
        · refine ⟨show (1 : Int) = 0 ∨ 1 = 1 from by decide, ?_⟩
          have hk := k1 (mx [94, 95, 96, 97, 98, fv 79 27, 105, fv 79 51] (mx [88, 90, 91, 103, fv 79 13, fv 79 17, 105, fv 79 51] (wv (mx [105, fv 79 51] (wv (mx [105, fv 79 51] (mx [80, 82, 83, 84, 85, 86, 87, fv 79 4, fv 79 11, fv 79 12, 105, fv 79 51, fv 79 0, fv 79 49, fv 79 50] f f1) f1_61) (fv 79 11) 0 r_60) f1_68) (fv 79 12) 0 r_67) f1_74) f1_85) him h50 (fun h => ⟨by show f1_85 105 = f 105; rw [hh_88 (h49.trans h), hh_77 (h49.trans h), hh_72 (h49.trans h), hh_65 (h49.trans h)]; exact ht0 h, absurd h (by assumption)⟩) (fun h => by
            have hn : ¬ tk = 0 := by omega
            have hn2 : ¬ f1 (fv 79 49) 0 = 0 := by rw [h49]; exact hn
            exact ⟨rfl, (ht1 hn).1, (ht1 hn).2.1, (ht1 hn).2.2.1, (ht1 hn).2.2.2.1, (ht1 hn).2.2.2.2.1, (ht1 hn).2.2.2.2.2.1, (ht1 hn).2.2.2.2.2.2.1, (ht1 hn).2.2.2.2.2.2.2.1, ((hh_66 hn2).trans ((ht1 hn).2.2.2.2.2.2.2.2.1)), ((hh_73 hn2).trans ((ht1 hn).2.2.2.2.2.2.2.2.2)), (hh_78 hn2).1, (hh_78 hn2).2.1, (hh_78 hn2).2.2.1, (hh_78 hn2).2.2.2.1, (hh_78 hn2).2.2.2.2.1, (hh_78 hn2).2.2.2.2.2, (hh_89 hn2).1, (hh_89 hn2).2.1, (hh_89 hn2).2.2.1, (hh_89 hn2).2.2.2.1, (hh_89 hn2).2.2.2.2.1, (hh_89 hn2).2.2.2.2.2⟩) ⟨(fun j h0 h1 => by show _ = f1_85 105 _; rw [hh_87 _ (by omega), hh_76 _ (by omega), hh_71 _ (by omega), hh_64 _ (by omega)]; exact dn0 j h0 h1), (by show _ = f1_85 105 40; rw [hh_87 _ (by omega), hh_76 _ (by omega), hh_71 _ (by omega), hh_64 _ (by omega)]; exact dn1), (fun j h0 h1 => by show _ = f1_85 105 _; rw [hh_87 _ (by omega), hh_76 _ (by omega), hh_71 _ (by omega), hh_64 _ (by omega)]; exact dn2 j h0 h1), (fun j h0 h1 => by show _ = f1_85 105 _; rw [hh_87 _ (by omega), hh_76 _ (by omega), hh_71 _ (by omega), hh_64 _ (by omega)]; exact dn3 j h0 h1), (fun j h0 h1 => by show _ = f1_85 105 _; rw [hh_87 _ (by omega), hh_76 _ (by omega), hh_71 _ (by omega), hh_64 _ (by omega)]; exact dn4 j h0 h1), (fun j h0 h1 => by show _ = f1_85 105 _; rw [hh_87 _ (by omega), hh_76 _ (by omega), hh_71 _ (by omega), hh_64 _ (by omega)]; exact dn5 j h0 h1), (fun j h0 h1 => by show _ = f1_85 105 _; rw [hh_87 _ (by omega), hh_76 _ (by omega), hh_71 _ (by omega), hh_64 _ (by omega)]; exact cu0 j h0 (by omega)), (fun j h0 h1 => by show _ = f1_85 105 _; rw [hh_87 _ (by omega), hh_76 _ (by omega), hh_71 _ (by omega), hh_64 _ (by omega)]; exact cu1 j h0 (by omega)), (by show r_60 = f1_85 105 131; rw [hh_87 _ (by omega), hh_76 _ (by omega), hh_71 _ (by omega), hh_63, show f1 (fv 79 51) 0 = 131 by omega]), (by show r_67 = f1_85 105 132; rw [hh_87 _ (by omega), hh_76 _ (by omega), hh_70, show f1_61 (fv 79 51) 0 = 132 by omega])⟩ ⟨(by show _ = f1_85 105 133; rw [hh_87 _ (by omega)]; exact hh_79), (fun j h0 h1 => by show _ = f1_85 105 _; rw [hh_87 _ (by omega)]; exact hh_80 j h0 h1), (by show _ = f1_85 105 194; rw [hh_87 _ (by omega)]; exact hh_81), (fun j h0 h1 => by show _ = f1_85 105 _; rw [hh_87 _ (by omega)]; exact hh_82 j h0 h1), (fun j h0 h1 => by show _ = f1_85 105 _; rw [hh_87 _ (by omega)]; exact hh_83 j h0 h1), (fun j h0 h1 => by show _ = f1_85 105 _; rw [hh_87 _ (by omega)]; exact hh_84 j h0 h1)⟩ ⟨hh_90, hh_91, hh_92, hh_93, hh_94, hh_95⟩
          rw [show mx [80, 82, 83, 84, 85, 86, 87, fv 79 4, fv 79 11, fv 79 12, 88, 90, 91, 103, fv 79 13, fv 79 17, 94, 95, 96, 97, 98, fv 79 27, 105, fv 79 51, fv 79 0, fv 79 49, fv 79 50, fv 79 3] f (mx [94, 95, 96, 97, 98, fv 79 27, 105, fv 79 51] (mx [88, 90, 91, 103, fv 79 13, fv 79 17, 105, fv 79 51] (wv (mx [105, fv 79 51] (wv (mx [105, fv 79 51] (mx [80, 82, 83, 84, 85, 86, 87, fv 79 4, fv 79 11, fv 79 12, 105, fv 79 51, fv 79 0, fv 79 49, fv 79 50] f f1) f1_61) (fv 79 11) 0 r_60) f1_68) (fv 79 12) 0 r_67) f1_74) f1_85) = (mx [94, 95, 96, 97, 98, fv 79 27, 105, fv 79 51] (mx [88, 90, 91, 103, fv 79 13, fv 79 17, 105, fv 79 51] (wv (mx [105, fv 79 51] (wv (mx [105, fv 79 51] (mx [80, 82, 83, 84, 85, 86, 87, fv 79 4, fv 79 11, fv 79 12, 105, fv 79 51, fv 79 0, fv 79 49, fv 79 50] f f1) f1_61) (fv 79 11) 0 r_60) f1_68) (fv 79 12) 0 r_67) f1_74) f1_85) from ((mx_mx rfl (mx_mx rfl (mx_wv rfl (mx_mx rfl (mx_wv rfl (mx_mx rfl (mx_mx rfl mx_rf)))))))).symm] at hk
          exact hk
  · refine ⟨fun (hh_97 : tk = 0) => ?_, fun (hh_97 : ¬ tk = 0) => ?_⟩
    · refine ⟨fun (hh_98 : f (fv 79 50) 0 = 0) => ?_, fun (hh_98 : ¬ f (fv 79 50) 0 = 0) => ?_⟩
      · refine ⟨show (0 : Int) = 0 ∨ 0 = 1 from by decide, ?_⟩
        exact k0 (by exact ⟨by assumption, by assumption⟩)
      · refine ⟨show (tk : Int) = 0 ∨ tk = 1 from by omega, ?_⟩
        refine ⟨show (1 : Int) = 0 ∨ 1 = 1 from by decide, ?_⟩
        refine hF (80 - 0 : Int).toNat ?_ (Or.inl ⟨rfl, 0, (wv (wv (wv (wv f (fv 79 0) 0 0) (fv 79 49) 0 tk) (fv 79 50) 0 1) (fv 79 51) 0 0), rfl, rfl, (mx_wv rfl (mx_wv rfl (mx_wv rfl (mx_wv rfl mx_rf)))), rfl, ?_, ?_, ?_, ?_, ?_, ?_, ?_, ?_, ?_, ?_⟩)
        · omega
        · first | exact him | omega
        · first | exact h49 | rfl
        · first | exact h50 | rfl
        · omega
        · show 0 = _
          omega
        · intro j hj
          show (f 105) j = _
          try rfl
        · intro h
          show (f 105) = _
          first | rfl | skip
        · intro h
          exact ⟨rfl, rfl, rfl, rfl, rfl, rfl, rfl, rfl, rfl, rfl⟩
        · intro j h0 h1; omega
        · omega
    · refine ⟨show (tk : Int) = 0 ∨ tk = 1 from by omega, ?_⟩
      refine ⟨show (1 : Int) = 0 ∨ 1 = 1 from by decide, ?_⟩
      refine hF (80 - 0 : Int).toNat ?_ (Or.inl ⟨rfl, 0, (wv (wv (wv (wv f (fv 79 0) 0 0) (fv 79 49) 0 tk) (fv 79 50) 0 1) (fv 79 51) 0 0), rfl, rfl, (mx_wv rfl (mx_wv rfl (mx_wv rfl (mx_wv rfl mx_rf)))), rfl, ?_, ?_, ?_, ?_, ?_, ?_, ?_, ?_, ?_, ?_⟩)
      · omega
      · first | exact him | omega
      · first | exact h49 | rfl
      · first | exact h50 | rfl
      · omega
      · show 0 = _
        omega
      · intro j hj
        show (f 105) j = _
        try rfl
      · intro h
        show (f 105) = _
        first | rfl | skip
      · intro h
        exact ⟨rfl, rfl, rfl, rfl, rfl, rfl, rfl, rfl, rfl, rfl⟩
      · intro j h0 h1; omega
      · omega
end C23
