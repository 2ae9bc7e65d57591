section C25
variable {d : Nat} {f : iF} {g : iG} {Q : Option iv → iF → iG → Prop}
set_option maxRecDepth 100000 in
set_option maxHeartbeats 4000000 in
theorem k_addBytes {v : Int} (hd : 2 ≤ d) (ht : 0 ≤ (f (fv 39 1) 0) ∧ (f (fv 39 1) 0) ≤ 396) (k0 : ∀ f1 : iF, (f1 (fv 39 1) 0 = (f (fv 39 1) 0) + 4) → (∀ q, 0 ≤ q → q < 4 → f1 40 ((f (fv 39 1) 0) + q) = byt v (24 - 8 * q)) → (∀ j, 0 ≤ j → j < (f (fv 39 1) 0) → f1 40 j = (f 40 j)) → Q none (mx [40, fv 39 1] f f1) g) : wq d 217 [iR 0, iI v] f g Q := by
  obtain ⟨d, rfl⟩ : ∃ e, d = e + 1 := ⟨d - 1, by omega⟩
  refine i_meth0 rfl rfl (fun O J hO => ?_)
  refine hO (k_add_tp (by omega) (show 0 ≤ (f (fv 39 1) 0) ∧ (f (fv 39 1) 0) < 400 from by omega) ?_)
  refine hO (k_add_tp (by omega) (show 0 ≤ ((f (fv 39 1) 0) + 1) ∧ ((f (fv 39 1) 0) + 1) < 400 from by omega) ?_)
  refine hO (k_add_tp (by omega) (show 0 ≤ (((f (fv 39 1) 0) + 1) + 1) ∧ (((f (fv 39 1) 0) + 1) + 1) < 400 from by omega) ?_)
  refine hO (k_add_tp (by omega) (show 0 ≤ ((((f (fv 39 1) 0) + 1) + 1) + 1) ∧ ((((f (fv 39 1) 0) + 1) + 1) + 1) < 400 from by omega) ?_)
  have eu0 : (wv f 40 (f (fv 39 1) 0) (b_ushr v 24)) 40 = up (f 40) (f (fv 39 1) 0) (b_ushr v 24) := wv_up
  have eu1 : (wv (wv (wv f 40 (f (fv 39 1) 0) (b_ushr v 24)) (fv 39 1) 0 ((f (fv 39 1) 0) + 1)) 40 ((f (fv 39 1) 0) + 1) (b_and (b_ushr v 16) 255)) 40 = up ((wv f 40 (f (fv 39 1) 0) (b_ushr v 24)) 40) ((f (fv 39 1) 0) + 1) (b_and (b_ushr v 16) 255) := wv_up
  have eu2 : (wv (wv (wv (wv (wv f 40 (f (fv 39 1) 0) (b_ushr v 24)) (fv 39 1) 0 ((f (fv 39 1) 0) + 1)) 40 ((f (fv 39 1) 0) + 1) (b_and (b_ushr v 16) 255)) (fv 39 1) 0 (((f (fv 39 1) 0) + 1) + 1)) 40 (((f (fv 39 1) 0) + 1) + 1) (b_and (b_ushr v 8) 255)) 40 = up ((wv (wv (wv f 40 (f (fv 39 1) 0) (b_ushr v 24)) (fv 39 1) 0 ((f (fv 39 1) 0) + 1)) 40 ((f (fv 39 1) 0) + 1) (b_and (b_ushr v 16) 255)) 40) (((f (fv 39 1) 0) + 1) + 1) (b_and (b_ushr v 8) 255) := wv_up
  have eu3 : (wv (wv (wv (wv (wv (wv (wv f 40 (f (fv 39 1) 0) (b_ushr v 24)) (fv 39 1) 0 ((f (fv 39 1) 0) + 1)) 40 ((f (fv 39 1) 0) + 1) (b_and (b_ushr v 16) 255)) (fv 39 1) 0 (((f (fv 39 1) 0) + 1) + 1)) 40 (((f (fv 39 1) 0) + 1) + 1) (b_and (b_ushr v 8) 255)) (fv 39 1) 0 ((((f (fv 39 1) 0) + 1) + 1) + 1)) 40 ((((f (fv 39 1) 0) + 1) + 1) + 1) (b_and v 255)) 40 = up ((wv (wv (wv (wv (wv f 40 (f (fv 39 1) 0) (b_ushr v 24)) (fv 39 1) 0 ((f (fv 39 1) 0) + 1)) 40 ((f (fv 39 1) 0) + 1) (b_and (b_ushr v 16) 255)) (fv 39 1) 0 (((f (fv 39 1) 0) + 1) + 1)) 40 (((f (fv 39 1) 0) + 1) + 1) (b_and (b_ushr v 8) 255)) 40) ((((f (fv 39 1) 0) + 1) + 1) + 1) (b_and v 255) := wv_up
  have hz : (wv (wv (wv (wv (wv (wv (wv (wv f 40 (f (fv 39 1) 0) (b_ushr v 24)) (fv 39 1) 0 ((f (fv 39 1) 0) + 1)) 40 ((f (fv 39 1) 0) + 1) (b_and (b_ushr v 16) 255)) (fv 39 1) 0 (((f (fv 39 1) 0) + 1) + 1)) 40 (((f (fv 39 1) 0) + 1) + 1) (b_and (b_ushr v 8) 255)) (fv 39 1) 0 ((((f (fv 39 1) 0) + 1) + 1) + 1)) 40 ((((f (fv 39 1) 0) + 1) + 1) + 1) (b_and v 255)) (fv 39 1) 0 (((((f (fv 39 1) 0) + 1) + 1) + 1) + 1)) 40 = _ := eu3
  have hk := k0 (wv (wv (wv (wv (wv (wv (wv (wv f 40 (f (fv 39 1) 0) (b_ushr v 24)) (fv 39 1) 0 ((f (fv 39 1) 0) + 1)) 40 ((f (fv 39 1) 0) + 1) (b_and (b_ushr v 16) 255)) (fv 39 1) 0 (((f (fv 39 1) 0) + 1) + 1)) 40 (((f (fv 39 1) 0) + 1) + 1) (b_and (b_ushr v 8) 255)) (fv 39 1) 0 ((((f (fv 39 1) 0) + 1) + 1) + 1)) 40 ((((f (fv 39 1) 0) + 1) + 1) + 1) (b_and v 255)) (fv 39 1) 0 (((((f (fv 39 1) 0) + 1) + 1) + 1) + 1)) (by show _ + 1 = _; omega) (fun q h0 h1 => by
    rw [hz, eu2, eu1, eu0]
    have h : q = 0 ∨ q = 1 ∨ q = 2 ∨ q = 3 := by omega
    rcases h with h | h | h | h <;> subst h
    · rw [up_n (by omega), up_n (by omega), up_n (by omega), show f (fv 39 1) 0 + 0 = f (fv 39 1) 0 by omega, up_s]; exact bt_24 v
    · rw [up_n (by omega), up_n (by omega), up_s]; exact bt_16 v
    · rw [up_n (by omega), show f (fv 39 1) 0 + 2 = f (fv 39 1) 0 + 1 + 1 by omega, up_s]; exact bt_8 v
    · rw [show f (fv 39 1) 0 + 3 = f (fv 39 1) 0 + 1 + 1 + 1 by omega, up_s]; exact bt_0 v) (fun j h0 h1 => by rw [hz, eu2, eu1, eu0, up_n (by omega), up_n (by omega), up_n (by omega), up_n (by omega)])
  rw [show mx [40, fv 39 1] f (wv (wv (wv (wv (wv (wv (wv (wv f 40 (f (fv 39 1) 0) (b_ushr v 24)) (fv 39 1) 0 ((f (fv 39 1) 0) + 1)) 40 ((f (fv 39 1) 0) + 1) (b_and (b_ushr v 16) 255)) (fv 39 1) 0 (((f (fv 39 1) 0) + 1) + 1)) 40 (((f (fv 39 1) 0) + 1) + 1) (b_and (b_ushr v 8) 255)) (fv 39 1) 0 ((((f (fv 39 1) 0) + 1) + 1) + 1)) 40 ((((f (fv 39 1) 0) + 1) + 1) + 1) (b_and v 255)) (fv 39 1) 0 (((((f (fv 39 1) 0) + 1) + 1) + 1) + 1)) = (wv (wv (wv (wv (wv (wv (wv (wv f 40 (f (fv 39 1) 0) (b_ushr v 24)) (fv 39 1) 0 ((f (fv 39 1) 0) + 1)) 40 ((f (fv 39 1) 0) + 1) (b_and (b_ushr v 16) 255)) (fv 39 1) 0 (((f (fv 39 1) 0) + 1) + 1)) 40 (((f (fv 39 1) 0) + 1) + 1) (b_and (b_ushr v 8) 255)) (fv 39 1) 0 ((((f (fv 39 1) 0) + 1) + 1) + 1)) 40 ((((f (fv 39 1) 0) + 1) + 1) + 1) (b_and v 255)) (fv 39 1) 0 (((((f (fv 39 1) 0) + 1) + 1) + 1) + 1)) from ((mx_wv rfl (mx_wv rfl (mx_wv rfl (mx_wv rfl (mx_wv rfl (mx_wv rfl (mx_wv rfl (mx_wv rfl mx_rf))))))))).symm] at hk
  exact hk
set_option maxRecDepth 100000 in
set_option maxHeartbeats 4000000 in
theorem k_feed {a b cc dd ee : Int} (hd : 3 ≤ d) (ht : 0 ≤ (f (fv 39 1) 0) ∧ (f (fv 39 1) 0) ≤ 400) (k0 : (380 < (f (fv 39 1) 0)) → Q (some (iI (-1))) f g) (k1 : ∀ f1 : iF, ((f (fv 39 1) 0) ≤ 380) → (f1 (fv 39 1) 0 = (f (fv 39 1) 0) + 20) → (∀ q, 0 ≤ q → q < 20 → f1 40 ((f (fv 39 1) 0) + q) = fdB a b cc dd ee q) → (∀ j, 0 ≤ j → j < (f (fv 39 1) 0) → f1 40 j = (f 40 j)) → Q (some (iI ((f (fv 39 1) 0) + 20))) (mx [40, fv 39 1] f f1) g) : wq d 190 [iR 0, iI a, iI b, iI cc, iI dd, iI ee] f g Q := by
  obtain ⟨d, rfl⟩ : ∃ e, d = e + 1 := ⟨d - 1, by omega⟩
  refine i_meth0 rfl rfl (fun O J hO => ?_)
  refine Or.inl ⟨show inr ((f (fv 39 1) 0) + 20) from by constructor <;> omega, ?_⟩
  refine ⟨fun (hh_1 : 400 < ((f (fv 39 1) 0) + 20)) => ?_, fun (hh_1 : ¬ 400 < ((f (fv 39 1) 0) + 20)) => ?_⟩
  · exact k0 (by omega)
  · refine hO (k_addBytes (by omega) (show 0 ≤ (f (fv 39 1) 0) ∧ (f (fv 39 1) 0) ≤ 396 from by omega) (fun f1_2 (hh_3 : f1_2 (fv 39 1) 0 = (f (fv 39 1) 0) + 4) (hh_4 : ∀ q, 0 ≤ q → q < 4 → f1_2 40 ((f (fv 39 1) 0) + q) = byt a (24 - 8 * q)) (hh_5 : ∀ j, 0 ≤ j → j < (f (fv 39 1) 0) → f1_2 40 j = (f 40 j)) => ?_))
    have hn1 := hh_3
    have hq1 := hh_4
    have hj1 := hh_5
    have hm1 : f1_2 (fv 39 1) 0 = f (fv 39 1) 0 + 4 := by omega
    refine hO (k_addBytes (by omega) (show 0 ≤ (f1_2 (fv 39 1) 0) ∧ (f1_2 (fv 39 1) 0) ≤ 396 from by omega) (fun f1_6 (hh_7 : f1_6 (fv 39 1) 0 = (f1_2 (fv 39 1) 0) + 4) (hh_8 : ∀ q, 0 ≤ q → q < 4 → f1_6 40 ((f1_2 (fv 39 1) 0) + q) = byt b (24 - 8 * q)) (hh_9 : ∀ j, 0 ≤ j → j < (f1_2 (fv 39 1) 0) → f1_6 40 j = (f1_2 40 j)) => ?_))
    have hn2 := hh_7
    have hq2 := hh_8
    have hj2 := hh_9
    rw [hm1] at hq2 hj2
    have hm2 : f1_6 (fv 39 1) 0 = f (fv 39 1) 0 + 8 := by omega
    refine hO (k_addBytes (by omega) (show 0 ≤ (f1_6 (fv 39 1) 0) ∧ (f1_6 (fv 39 1) 0) ≤ 396 from by omega) (fun f1_10 (hh_11 : f1_10 (fv 39 1) 0 = (f1_6 (fv 39 1) 0) + 4) (hh_12 : ∀ q, 0 ≤ q → q < 4 → f1_10 40 ((f1_6 (fv 39 1) 0) + q) = byt cc (24 - 8 * q)) (hh_13 : ∀ j, 0 ≤ j → j < (f1_6 (fv 39 1) 0) → f1_10 40 j = (f1_6 40 j)) => ?_))
    have hn3 := hh_11
    have hq3 := hh_12
    have hj3 := hh_13
    rw [hm2] at hq3 hj3
    have hm3 : f1_10 (fv 39 1) 0 = f (fv 39 1) 0 + 12 := by omega
    refine hO (k_addBytes (by omega) (show 0 ≤ (f1_10 (fv 39 1) 0) ∧ (f1_10 (fv 39 1) 0) ≤ 396 from by omega) (fun f1_14 (hh_15 : f1_14 (fv 39 1) 0 = (f1_10 (fv 39 1) 0) + 4) (hh_16 : ∀ q, 0 ≤ q → q < 4 → f1_14 40 ((f1_10 (fv 39 1) 0) + q) = byt dd (24 - 8 * q)) (hh_17 : ∀ j, 0 ≤ j → j < (f1_10 (fv 39 1) 0) → f1_14 40 j = (f1_10 40 j)) => ?_))
    have hn4 := hh_15
    have hq4 := hh_16
    have hj4 := hh_17
    rw [hm3] at hq4 hj4
    have hm4 : f1_14 (fv 39 1) 0 = f (fv 39 1) 0 + 16 := by omega
    refine hO (k_addBytes (by omega) (show 0 ≤ (f1_14 (fv 39 1) 0) ∧ (f1_14 (fv 39 1) 0) ≤ 396 from by omega) (fun f1_18 (hh_19 : f1_18 (fv 39 1) 0 = (f1_14 (fv 39 1) 0) + 4) (hh_20 : ∀ q, 0 ≤ q → q < 4 → f1_18 40 ((f1_14 (fv 39 1) 0) + q) = byt ee (24 - 8 * q)) (hh_21 : ∀ j, 0 ≤ j → j < (f1_14 (fv 39 1) 0) → f1_18 40 j = (f1_14 40 j)) => ?_))
    have hn5 := hh_19
    have hq5 := hh_20
    have hj5 := hh_21
    rw [hm4] at hq5 hj5
    have hm5 : f1_18 (fv 39 1) 0 = f (fv 39 1) 0 + 20 := by omega
    obtain ⟨hA, hB2⟩ := fd_all hq1 hj1 hq2 hj2 hq3 hj3 hq4 hj4 hq5 hj5 ht.1
    rw [← hm5] at k1
    have hk := k1 (mx [40, fv 39 1] (mx [40, fv 39 1] (mx [40, fv 39 1] (mx [40, fv 39 1] f1_2 f1_6) f1_10) f1_14) f1_18) (by omega) rfl hA hB2
    rw [show mx [40, fv 39 1] f (mx [40, fv 39 1] (mx [40, fv 39 1] (mx [40, fv 39 1] (mx [40, fv 39 1] f1_2 f1_6) f1_10) f1_14) f1_18) = (mx [40, fv 39 1] (mx [40, fv 39 1] (mx [40, fv 39 1] (mx [40, fv 39 1] (mx [40, fv 39 1] f f1_2) f1_6) f1_10) f1_14) f1_18) from ((mx_mx rfl (mx_mx rfl (mx_mx rfl (mx_mx rfl rfl))))).symm] at hk
    exact hk
theorem sgI_l {c : Int} (h : 97 ≤ c ∧ c ≤ 122) : sgI c = c - 97 := by unfold sgI; rw [if_pos h]
set_option maxRecDepth 100000 in
set_option maxHeartbeats 4000000 in
theorem k_wadd (hd : 3 ≤ d) (ht : 0 ≤ (f (fv 39 1) 0) ∧ (f (fv 39 1) 0) ≤ 400) (hwl : 0 ≤ (f (fv 12 2) 0) ∧ (f (fv 12 2) 0) ≤ 20) (k0 : (¬ (1 ≤ (f (fv 39 1) 0) ∧ (f (fv 39 1) 0) ≤ 12 ∧ (f (fv 12 2) 0) < 20 ∧ ∀ j, 0 ≤ j → j < (f (fv 39 1) 0) → 97 ≤ (f 40 j) ∧ (f 40 j) ≤ 122)) → Q (some (iI 0)) f g) (k1 : ∀ f1 : iF, (1 ≤ (f (fv 39 1) 0) ∧ (f (fv 39 1) 0) ≤ 12 ∧ (f (fv 12 2) 0) < 20) → (∀ j, 0 ≤ j → j < (f (fv 39 1) 0) → 97 ≤ (f 40 j) ∧ (f 40 j) ≤ 122) → (f1 (fv 12 2) 0 = (f (fv 12 2) 0) + 1) → (∀ k, f1 14 k = (if k = (f (fv 12 2) 0) then (f (fv 39 1) 0) else (f 14 k))) → ((∀ j, 0 ≤ j → j < (f (fv 39 1) 0) → f1 13 (12 * (f (fv 12 2) 0) + j) = (f 40 j) - 97) ∧ ∀ k, k < 12 * (f (fv 12 2) 0) → f1 13 k = (f 13 k)) → Q (some (iI 1)) (mx [13, 14, fv 12 2] f f1) g) : wq d 181 [iR 12, iR 39] f g Q := by
  obtain ⟨d, rfl⟩ : ∃ e, d = e + 1 := ⟨d - 1, by omega⟩
  refine i_meth [(19, 3), (34, 3)] (fun n j lv st f' g' => (j = 19 ∧ ∃ (i : Int), lv = [some (iR 12), some (iR 39), some (iI i)] ∧ st = [] ∧ f = f' ∧ g = g' ∧ (1 ≤ f (fv 39 1) 0 ∧ f (fv 39 1) 0 ≤ 12 ∧ f (fv 12 2) 0 < 20) ∧ (0 ≤ i ∧ i ≤ f (fv 39 1) 0) ∧ (∀ j, 0 ≤ j → j < i → 97 ≤ f 40 j ∧ f 40 j ≤ 122) ∧ (n : Int) = 40 - i) ∨ (j = 34 ∧ ∃ (i : Int) (f1 : iF), lv = [some (iR 12), some (iR 39), some (iI i)] ∧ st = [] ∧ f' = (mx [13, 14, fv 12 2] f f1) ∧ g = g' ∧ (1 ≤ f (fv 39 1) 0 ∧ f (fv 39 1) 0 ≤ 12 ∧ f (fv 12 2) 0 < 20) ∧ (0 ≤ i ∧ i ≤ f (fv 39 1) 0) ∧ (∀ j, 0 ≤ j → j < f (fv 39 1) 0 → 97 ≤ f 40 j ∧ f 40 j ≤ 122) ∧ (f1 (fv 12 2) 0 = f (fv 12 2) 0) ∧ (f1 14 = f 14) ∧ ((∀ j, 0 ≤ j → j < i → f1 13 (12 * f (fv 12 2) 0 + j) = f 40 j - 97) ∧ ∀ k, k < 12 * f (fv 12 2) 0 → f1 13 k = f 13 k) ∧ (n : Int) = 20 - i)) 60 (by omega) rfl rfl (fun n j lv st f' g' hn hI O J hO hF hB => ?_) (fun hvs hin O J hO hF => ?_)
  · rcases hI with hI | hI
    · obtain ⟨rfl, i, rfl, rfl, rfl, rfl, hr, hi, hz, hm⟩ := hI
      refine ⟨fun (hh_1 : i < f (fv 39 1) 0) => ?_, fun (hh_1 : ¬ i < f (fv 39 1) 0) => ?_⟩
      · refine hO (k_get_tp (by omega) (show 0 ≤ i ∧ i < 400 from by omega) ?_)
        refine hO (k_isSmall (by omega) (fun (hh_2 : 97 ≤ (f 40 i)) (hh_3 : (f 40 i) ≤ 122) => ?_) (fun (hh_4 : ¬ (97 ≤ (f 40 i) ∧ (f 40 i) ≤ 122)) => ?_))
        · refine ⟨fun h => absurd (show (1 : Int) = 0 from h) (by decide), fun _ => ?_⟩
          refine ⟨show inr (i + 1) from by constructor <;> omega, ?_⟩
          refine hB (40 - (i + 1) : Int).toNat ?_ (Or.inl ⟨rfl, (i + 1), rfl, rfl, rfl, rfl, ?_, ?_, ?_, ?_⟩)
          · omega
          · omega
          · omega
          · intro j h0 h1
            by_cases e : j = i
            · rw [e]; omega
            · exact hz j h0 (by omega)
          · omega
        · refine ⟨fun _ => ?_, fun h => absurd (show (0 : Int) = 0 from by decide) h⟩
          refine ⟨show (0 : Int) = 0 ∨ 0 = 1 from by decide, ?_⟩
          exact k0 (fun h => by have := h.2.2.2 i (by omega) (by omega); omega)
      · refine hF (20 - 0 : Int).toNat ?_ (Or.inr (⟨rfl, 0, f, rfl, rfl, mx_rf, rfl, ?_, ?_, ?_, ?_, ?_, ?_, ?_⟩))
        · omega
        · omega
        · omega
        · intro j h0 h1; exact hz j h0 (by omega)
        · rfl
        · rfl
        · exact ⟨fun j h0 h1 => by omega, fun k h0 => rfl⟩
        · omega
    · obtain ⟨rfl, i, f1, rfl, rfl, rfl, rfl, hr, hi, hz, h12, h14, h13, hm⟩ := hI
      refine ⟨fun (hh_5 : i < f (fv 39 1) 0) => ?_, fun (hh_5 : ¬ i < f (fv 39 1) 0) => ?_⟩
      · refine ⟨fun _ => ?_, fun h => absurd (show i < 12 from by omega) h⟩
        refine Or.inl ⟨show inr ((f1 (fv 12 2) 0) * 12) from by constructor <;> omega, ?_⟩
        refine Or.inl ⟨show inr (((f1 (fv 12 2) 0) * 12) + i) from by constructor <;> omega, ?_⟩
        refine hO (k_get_tp (by omega) (show 0 ≤ i ∧ i < 400 from by omega) ?_)
        refine hO (k_signOf (by omega) ?_)
        refine ⟨show 0 ≤ ((((f1 (fv 12 2) 0) * 12) + i) : Int) ∧ (((f1 (fv 12 2) 0) * 12) + i) < 240 from by omega, ?_⟩
        refine ⟨show inr (i + 1) from by constructor <;> omega, ?_⟩
        refine hB (20 - (i + 1) : Int).toNat ?_ (Or.inr (⟨rfl, (i + 1), (wv f1 13 (((f1 (fv 12 2) 0) * 12) + i) (sgI (f 40 i))), rfl, rfl, (mx_wv rfl rfl), rfl, ?_, ?_, ?_, ?_, ?_, ?_, ?_⟩))
        · omega
        · omega
        · omega
        · exact hz
        · exact h12
        · exact h14
        · refine ⟨fun j h0 h1 => ?_, fun k h0 => ?_⟩
          · rw [wv_i]
            by_cases e : j = i
            · rw [if_pos (by rw [h12]; omega), e, sgI_l (hz i (by omega) (by omega))]
            · rw [if_neg (by rw [h12]; omega)]; exact h13.1 j h0 (by omega)
          · rw [wv_k (by rw [h12]; omega)]; exact h13.2 k h0
        · omega
      · refine ⟨show 0 ≤ (f1 (fv 12 2) 0 : Int) ∧ f1 (fv 12 2) 0 < 20 from by omega, ?_⟩
        refine Or.inl ⟨show inr ((f1 (fv 12 2) 0) + 1) from by constructor <;> omega, ?_⟩
        refine ⟨show (1 : Int) = 0 ∨ 1 = 1 from by decide, ?_⟩
        have hk := k1 (wv (wv f1 14 (f1 (fv 12 2) 0) (f (fv 39 1) 0)) (fv 12 2) 0 ((f1 (fv 12 2) 0) + 1)) hr hz (by show f1 (fv 12 2) 0 + 1 = _; rw [h12]) (fun k => by
          show wv f1 14 (f1 (fv 12 2) 0) (f (fv 39 1) 0) 14 k = _
          rw [wv_i, h14, h12]) ⟨fun j h0 h1 => h13.1 j h0 (by omega), h13.2⟩
        rw [show mx [13, 14, fv 12 2] f (wv (wv f1 14 (f1 (fv 12 2) 0) (f (fv 39 1) 0)) (fv 12 2) 0 ((f1 (fv 12 2) 0) + 1)) = (wv (wv (mx [13, 14, fv 12 2] f f1) 14 (f1 (fv 12 2) 0) (f (fv 39 1) 0)) (fv 12 2) 0 ((f1 (fv 12 2) 0) + 1)) from ((mx_wv rfl (mx_wv rfl rfl))).symm] at hk
        exact hk
  · refine ⟨fun (hh_6 : f (fv 12 2) 0 < 0) => ?_, fun (hh_6 : ¬ f (fv 12 2) 0 < 0) => ?_⟩
    · refine ⟨show (0 : Int) = 0 ∨ 0 = 1 from by decide, ?_⟩
      exact k0 (by omega)
    · refine ⟨fun (hh_7 : f (fv 12 2) 0 < 20) => ?_, fun (hh_7 : ¬ f (fv 12 2) 0 < 20) => ?_⟩
      · refine ⟨fun (hh_8 : f (fv 39 1) 0 < 1) => ?_, fun (hh_8 : ¬ f (fv 39 1) 0 < 1) => ?_⟩
        · refine ⟨show (0 : Int) = 0 ∨ 0 = 1 from by decide, ?_⟩
          exact k0 (by omega)
        · refine ⟨fun (hh_9 : 12 < f (fv 39 1) 0) => ?_, fun (hh_9 : ¬ 12 < f (fv 39 1) 0) => ?_⟩
          · refine ⟨show (0 : Int) = 0 ∨ 0 = 1 from by decide, ?_⟩
            exact k0 (by omega)
          · refine hF (40 - 0 : Int).toNat ?_ (Or.inl ⟨rfl, 0, rfl, rfl, rfl, rfl, ?_, ?_, ?_, ?_⟩)
            · omega
            · omega
            · omega
            · intro j h0 h1; omega
            · omega
      · refine ⟨show (0 : Int) = 0 ∨ 0 = 1 from by decide, ?_⟩
        exact k0 (by omega)
set_option maxRecDepth 100000 in
set_option maxHeartbeats 4000000 in
theorem k_word (hd : 4 ≤ d) (ht : 0 ≤ (f (fv 39 1) 0) ∧ (f (fv 39 1) 0) ≤ 400) (hwl : 0 ≤ (f (fv 12 2) 0) ∧ (f (fv 12 2) 0) ≤ 20) (k0 : (¬ (1 ≤ (f (fv 39 1) 0) ∧ (f (fv 39 1) 0) ≤ 12 ∧ (f (fv 12 2) 0) < 20 ∧ ∀ j, 0 ≤ j → j < (f (fv 39 1) 0) → 97 ≤ (f 40 j) ∧ (f 40 j) ≤ 122)) → Q (some (iI (-1))) (wv (wv (wv (wv f (fv 39 1) 0 0) (fv 62 0) 0 0) (fv 72 0) 0 (-1)) (fv 76 0) 0 0) g) (k1 : ∀ f1 : iF, (1 ≤ (f (fv 39 1) 0) ∧ (f (fv 39 1) 0) ≤ 12 ∧ (f (fv 12 2) 0) < 20) → (∀ j, 0 ≤ j → j < (f (fv 39 1) 0) → 97 ≤ (f 40 j) ∧ (f 40 j) ≤ 122) → (f1 (fv 12 2) 0 = (f (fv 12 2) 0) + 1 ∧ f1 (fv 39 1) 0 = 0 ∧ f1 (fv 62 0) 0 = 0 ∧ f1 (fv 72 0) 0 = (-1) ∧ f1 (fv 76 0) 0 = 0) → (∀ k, f1 14 k = (if k = (f (fv 12 2) 0) then (f (fv 39 1) 0) else (f 14 k))) → ((∀ j, 0 ≤ j → j < (f (fv 39 1) 0) → f1 13 (12 * (f (fv 12 2) 0) + j) = (f 40 j) - 97) ∧ ∀ k, k < 12 * (f (fv 12 2) 0) → f1 13 k = (f 13 k)) → Q (some (iI ((f (fv 12 2) 0) + 1 - 1))) (mx [13, 14, fv 12 2, fv 39 1, fv 62 0, fv 72 0, fv 76 0] f f1) g) : wq d 195 [iR 0] f g Q := by
  obtain ⟨d, rfl⟩ : ∃ e, d = e + 1 := ⟨d - 1, by omega⟩
  refine i_meth0 rfl rfl (fun O J hO => ?_)
  refine hO (k_wadd (by omega) (show 0 ≤ (f (fv 39 1) 0) ∧ (f (fv 39 1) 0) ≤ 400 from ht) (show 0 ≤ (f (fv 12 2) 0) ∧ (f (fv 12 2) 0) ≤ 20 from hwl) (fun (hh_1 : ¬ (1 ≤ (f (fv 39 1) 0) ∧ (f (fv 39 1) 0) ≤ 12 ∧ (f (fv 12 2) 0) < 20 ∧ ∀ j, 0 ≤ j → j < (f (fv 39 1) 0) → 97 ≤ (f 40 j) ∧ (f 40 j) ≤ 122)) => ?_) (fun f1_2 (hh_3 : 1 ≤ (f (fv 39 1) 0) ∧ (f (fv 39 1) 0) ≤ 12 ∧ (f (fv 12 2) 0) < 20) (hh_4 : ∀ j, 0 ≤ j → j < (f (fv 39 1) 0) → 97 ≤ (f 40 j) ∧ (f 40 j) ≤ 122) (hh_5 : f1_2 (fv 12 2) 0 = (f (fv 12 2) 0) + 1) (hh_6 : ∀ k, f1_2 14 k = (if k = (f (fv 12 2) 0) then (f (fv 39 1) 0) else (f 14 k))) (hh_7 : (∀ j, 0 ≤ j → j < (f (fv 39 1) 0) → f1_2 13 (12 * (f (fv 12 2) 0) + j) = (f 40 j) - 97) ∧ ∀ k, k < 12 * (f (fv 12 2) 0) → f1_2 13 k = (f 13 k)) => ?_))
  · refine hO (k_forget (by omega) ?_)
    refine ⟨fun _ => ?_, fun h => absurd (show (0 : Int) = 0 from by decide) h⟩
    exact k0 (by assumption)
  · have q1 := hh_3
    have q2 := hh_4
    have q3 := hh_5
    have q4 := hh_6
    have q5 := hh_7
    refine hO (k_forget (by omega) ?_)
    refine ⟨fun h => absurd (show (1 : Int) = 0 from h) (by decide), fun _ => ?_⟩
    refine Or.inl ⟨show inr ((f1_2 (fv 12 2) 0) - 1) from by constructor <;> omega, ?_⟩
    rw [← q3] at k1
    have hk := k1 (wv (wv (wv (wv (mx [13, 14, fv 12 2] f f1_2) (fv 39 1) 0 0) (fv 62 0) 0 0) (fv 72 0) 0 (-1)) (fv 76 0) 0 0) q1 q2 ⟨rfl, rfl, rfl, rfl, rfl⟩ q4 q5
    rw [show mx [13, 14, fv 12 2, fv 39 1, fv 62 0, fv 72 0, fv 76 0] f (wv (wv (wv (wv (mx [13, 14, fv 12 2] f f1_2) (fv 39 1) 0 0) (fv 62 0) 0 0) (fv 72 0) 0 (-1)) (fv 76 0) 0 0) = (wv (wv (wv (wv (mx [13, 14, fv 12 2] f f1_2) (fv 39 1) 0 0) (fv 62 0) 0 0) (fv 72 0) 0 (-1)) (fv 76 0) 0 0) from ((mx_wv rfl (mx_wv rfl (mx_wv rfl (mx_wv rfl (mx_mx rfl mx_rf)))))).symm] at hk
    exact hk
set_option maxRecDepth 100000 in
set_option maxHeartbeats 4000000 in
theorem k_eat (hd : 1 ≤ d) (hc : 0 ≤ (f (fv 1 0) 0) ∧ (f (fv 1 0) 0) ≤ 8) (hp : ∀ a, 0 ≤ a → a < 8 → 0 ≤ (f 2 a) ∧ (f 2 a) ≤ 99999 ∧ 0 ≤ (f 3 a) ∧ (f 3 a) ≤ 99) (k0 : ∀ f1 : iF, (∀ a, 0 ≤ a → a < (f (fv 1 0) 0) → f1 2 a = (if (f 3 a) ≤ (f 2 a) then (f 2 a) - (f 3 a) else (f 2 a))) → (∀ a, 0 ≤ a → a < (f (fv 1 0) 0) → f1 5 a = (if (f 3 a) ≤ (f 2 a) then (f 5 a) else w32 ((f 5 a) + 1))) → ((∀ k, (f (fv 1 0) 0) ≤ k → f1 2 k = (f 2 k)) ∧ ∀ k, (f (fv 1 0) 0) ≤ k → f1 5 k = (f 5 k)) → Q (some (iI (cI (fun a => decide ((f 2 a) < (f 3 a))) (f (fv 1 0) 0)))) (mx [2, 5] f f1) g) : wq d 107 [iR 1] f g Q := by
  obtain ⟨d, rfl⟩ : ∃ e, d = e + 1 := ⟨d - 1, by omega⟩
  refine i_meth [(4, 3)] (fun n j lv st f' g' => (j = 4 ∧ ∃ (c : Int) (a : Int) (f1 : iF), lv = [some (iR 1), some (iI c), some (iI a)] ∧ st = [] ∧ f' = (mx [2, 5] f f1) ∧ g = g' ∧ (0 ≤ a ∧ a ≤ f (fv 1 0) 0 ∧ 0 ≤ c ∧ c ≤ a) ∧ (c = cI (fun a => decide (f 2 a < f 3 a)) a) ∧ (∀ k, 0 ≤ k → k < a → f1 2 k = (if f 3 k ≤ f 2 k then f 2 k - f 3 k else f 2 k)) ∧ (∀ k, 0 ≤ k → k < a → f1 5 k = (if f 3 k ≤ f 2 k then f 5 k else w32 (f 5 k + 1))) ∧ ((∀ k, a ≤ k → f1 2 k = f 2 k) ∧ ∀ k, a ≤ k → f1 5 k = f 5 k) ∧ (n : Int) = f (fv 1 0) 0 - a)) 8 (by omega) rfl rfl (fun n j lv st f' g' hn hI O J hO hF hB => ?_) (fun hvs hin O J hO hF => ?_)
  · obtain ⟨rfl, c, a, f1, rfl, rfl, rfl, rfl, ha, hcc, h80, h84, hr, hm⟩ := hI
    have hr80 := hr.1 a (by omega)
    have hr84 := hr.2 a (by omega)
    refine ⟨fun (hh_1 : a < f (fv 1 0) 0) => ?_, fun (hh_1 : ¬ a < f (fv 1 0) 0) => ?_⟩
    · have hpa := hp a (by omega) (by omega)
      refine ⟨fun _ => ?_, fun h => absurd (show a < 8 from by omega) h⟩
      refine ⟨show 0 ≤ (a : Int) ∧ a < 8 from by omega, ?_⟩
      refine ⟨show 0 ≤ (a : Int) ∧ a < 8 from by omega, ?_⟩
      refine ⟨fun (hh_2 : f1 2 a < f 3 a) => ?_, fun (hh_2 : ¬ f1 2 a < f 3 a) => ?_⟩
      · refine ⟨show 0 ≤ (a : Int) ∧ a < 8 from by omega, ?_⟩
        refine Or.inr ?_
        refine ⟨show 0 ≤ (a : Int) ∧ a < 8 from by omega, ?_⟩
        refine ⟨show inr (c + 1) from by constructor <;> omega, ?_⟩
        refine ⟨show inr (a + 1) from by constructor <;> omega, ?_⟩
        refine hB (f (fv 1 0) 0 - (a + 1) : Int).toNat ?_ ⟨rfl, (c + 1), (a + 1), (wv f1 5 a (w32 ((f1 5 a) + 1))), rfl, rfl, (mx_wv rfl rfl), rfl, ?_, ?_, ?_, ?_, ?_, ?_⟩
        · omega
        · omega
        · first | (rw [cI_t (by omega) (decide_eq_true (by omega))]; omega) | (rw [cI_f (by omega) (decide_eq_false (by omega))]; omega)
        · intro k h0 h1
          by_cases e : k = a
          · rw [e, if_neg (by omega)]; exact hr80
          · exact h80 k h0 (by omega)
        · intro k h0 h1
          rw [wv_i]
          by_cases e : k = a
          · rw [if_pos e, e, if_neg (by omega), hr84]
          · rw [if_neg e]; exact h84 k h0 (by omega)
        · exact ⟨fun k h0 => hr.1 k (by omega), fun k h0 => by rw [wv_k (by omega)]; exact hr.2 k (by omega)⟩
        · omega
      · refine ⟨show 0 ≤ (a : Int) ∧ a < 8 from by omega, ?_⟩
        refine ⟨show 0 ≤ (a : Int) ∧ a < 8 from by omega, ?_⟩
        refine Or.inl ⟨show inr ((f1 2 a) - (f 3 a)) from by constructor <;> omega, ?_⟩
        refine ⟨show 0 ≤ (a : Int) ∧ a < 8 from by omega, ?_⟩
        refine ⟨show inr (a + 1) from by constructor <;> omega, ?_⟩
        refine hB (f (fv 1 0) 0 - (a + 1) : Int).toNat ?_ ⟨rfl, c, (a + 1), (wv f1 2 a ((f1 2 a) - (f 3 a))), rfl, rfl, (mx_wv rfl rfl), rfl, ?_, ?_, ?_, ?_, ?_, ?_⟩
        · omega
        · omega
        · first | (rw [cI_t (by omega) (decide_eq_true (by omega))]; omega) | (rw [cI_f (by omega) (decide_eq_false (by omega))]; omega)
        · intro k h0 h1
          rw [wv_i]
          by_cases e : k = a
          · rw [if_pos e, e, if_pos (by omega), hr80]
          · rw [if_neg e]; exact h80 k h0 (by omega)
        · intro k h0 h1
          by_cases e : k = a
          · rw [e, if_pos (by omega)]; exact hr84
          · exact h84 k h0 (by omega)
        · exact ⟨fun k h0 => by rw [wv_k (by omega)]; exact hr.1 k (by omega), fun k h0 => hr.2 k (by omega)⟩
        · omega
    · rw [show a = f (fv 1 0) 0 by omega] at hcc h80 h84 hr
      rw [← hcc] at k0
      exact k0 f1 h80 h84 hr
  · refine hF (f (fv 1 0) 0 - 0 : Int).toNat ?_ ⟨rfl, 0, 0, f, rfl, rfl, mx_rf, rfl, ?_, ?_, ?_, ?_, ?_, ?_⟩
    · omega
    · omega
    · rfl
    · intro k h0 h1; omega
    · intro k h0 h1; omega
    · exact ⟨fun _ _ => rfl, fun _ _ => rfl⟩
    · omega
set_option maxRecDepth 100000 in
set_option maxHeartbeats 4000000 in
theorem k_day (hd : 3 ≤ d) (hc : 0 ≤ (f (fv 1 0) 0) ∧ (f (fv 1 0) 0) ≤ 8) (hd1 : 0 ≤ (f (fv 1 15) 0) ∧ (f (fv 1 15) 0) ≤ 9999) (hp : ∀ a, 0 ≤ a → a < 8 → 0 ≤ (f 2 a) ∧ (f 2 a) ≤ 99999 ∧ 0 ≤ (f 3 a) ∧ (f 3 a) ≤ 99) (k0 : (9999 ≤ (f (fv 1 15) 0)) → Q (some (iI (-1))) f g) (k1 : ∀ f1 : iF, ((f (fv 1 15) 0) < 9999) → (∀ a, 0 ≤ a → a < (f (fv 1 0) 0) → f1 2 a = (if (f 3 a) ≤ (f 2 a) then (f 2 a) - (f 3 a) else (f 2 a))) → (∀ a, 0 ≤ a → a < (f (fv 1 0) 0) → f1 5 a = (if (f 3 a) ≤ (f 2 a) then (f 5 a) else w32 ((f 5 a) + 1))) → ((∀ k, (f (fv 1 0) 0) ≤ k → f1 2 k = (f 2 k)) ∧ ∀ k, (f (fv 1 0) 0) ≤ k → f1 5 k = (f 5 k)) → (f1 (fv 1 15) 0 = (f (fv 1 15) 0) + 1 ∧ f1 (fv 48 5) 0 = 0 ∧ f1 (fv 62 0) 0 = 0 ∧ f1 (fv 72 0) 0 = (-1) ∧ f1 (fv 76 0) 0 = 0) → Q (some (iI (cI (fun a => decide ((f 2 a) < (f 3 a))) (f (fv 1 0) 0)))) (mx [2, 5, fv 1 15, fv 48 5, fv 62 0, fv 72 0, fv 76 0] f f1) g) : wq d 198 [iR 0] f g Q := by
  obtain ⟨d, rfl⟩ : ∃ e, d = e + 1 := ⟨d - 1, by omega⟩
  refine i_meth0 rfl rfl (fun O J hO => ?_)
  refine ⟨fun (hh_1 : f (fv 1 15) 0 < 9999) => ?_, fun (hh_1 : ¬ f (fv 1 15) 0 < 9999) => ?_⟩
  · refine hO (k_eat (by omega) (show 0 ≤ (f (fv 1 0) 0) ∧ (f (fv 1 0) 0) ≤ 8 from hc) (show ∀ a, 0 ≤ a → a < 8 → 0 ≤ (f 2 a) ∧ (f 2 a) ≤ 99999 ∧ 0 ≤ (f 3 a) ∧ (f 3 a) ≤ 99 from hp) (fun f1_2 (hh_3 : ∀ a, 0 ≤ a → a < (f (fv 1 0) 0) → f1_2 2 a = (if (f 3 a) ≤ (f 2 a) then (f 2 a) - (f 3 a) else (f 2 a))) (hh_4 : ∀ a, 0 ≤ a → a < (f (fv 1 0) 0) → f1_2 5 a = (if (f 3 a) ≤ (f 2 a) then (f 5 a) else w32 ((f 5 a) + 1))) (hh_5 : (∀ k, (f (fv 1 0) 0) ≤ k → f1_2 2 k = (f 2 k)) ∧ ∀ k, (f (fv 1 0) 0) ≤ k → f1_2 5 k = (f 5 k)) => ?_))
    refine Or.inl ⟨show inr ((f (fv 1 15) 0) + 1) from by constructor <;> omega, ?_⟩
    refine hO (k_changed (by omega) ?_)
    have hk := k1 (wv (wv (wv (wv (wv (mx [2, 5] f f1_2) (fv 1 15) 0 ((f (fv 1 15) 0) + 1)) (fv 48 5) 0 0) (fv 62 0) 0 0) (fv 72 0) 0 (-1)) (fv 76 0) 0 0) (by omega) (by assumption) (by assumption) (by assumption) (by exact ⟨rfl, rfl, rfl, rfl, rfl⟩)
    rw [show mx [2, 5, fv 1 15, fv 48 5, fv 62 0, fv 72 0, fv 76 0] f (wv (wv (wv (wv (wv (mx [2, 5] f f1_2) (fv 1 15) 0 ((f (fv 1 15) 0) + 1)) (fv 48 5) 0 0) (fv 62 0) 0 0) (fv 72 0) 0 (-1)) (fv 76 0) 0 0) = (wv (wv (wv (wv (wv (mx [2, 5] f f1_2) (fv 1 15) 0 ((f (fv 1 15) 0) + 1)) (fv 48 5) 0 0) (fv 62 0) 0 0) (fv 72 0) 0 (-1)) (fv 76 0) 0 0) from ((mx_wv rfl (mx_wv rfl (mx_wv rfl (mx_wv rfl (mx_wv rfl (mx_mx rfl mx_rf))))))).symm] at hk
    exact hk
  · exact k0 (by omega)
set_option maxRecDepth 100000 in
set_option maxHeartbeats 4000000 in
theorem k_countOwned {a : Int} (hd : 1 ≤ d) (k0 : Q (some (iI (cI (fun s => decide ((f 7 s) = a)) 29))) f g) : wq d 103 [iR 1, iI a] f g Q := by
  obtain ⟨d, rfl⟩ : ∃ e, d = e + 1 := ⟨d - 1, by omega⟩
  refine i_meth [(4, 4)] (fun n j lv st f' g' => (j = 4 ∧ ∃ (c : Int) (k : Int), lv = [some (iR 1), some (iI a), some (iI c), some (iI k)] ∧ st = [] ∧ f = f' ∧ g = g' ∧ (0 ≤ k ∧ k ≤ 29 ∧ 0 ≤ c ∧ c ≤ k) ∧ (c = cI (fun s => decide ((f 7 s) = a)) k) ∧ (n : Int) = 29 - k)) 29 (by omega) rfl rfl (fun n j lv st f' g' hn hI O J hO hF hB => ?_) (fun hvs hin O J hO hF => ?_)
  · obtain ⟨rfl, c, k, rfl, rfl, rfl, rfl, hk, hc, hm⟩ := hI
    refine ⟨fun (hh_1 : k < 29) => ?_, fun (hh_1 : ¬ k < 29) => ?_⟩
    · refine ⟨show 0 ≤ (k : Int) ∧ k < 29 from by omega, ?_⟩
      refine ⟨fun (hh_2 : f 7 k = a) => ?_, fun (hh_2 : ¬ f 7 k = a) => ?_⟩
      · refine ⟨show inr (c + 1) from by constructor <;> omega, ?_⟩
        refine ⟨show inr (k + 1) from by constructor <;> omega, ?_⟩
        refine hB (29 - (k + 1) : Int).toNat ?_ ⟨rfl, (c + 1), (k + 1), rfl, rfl, rfl, rfl, ?_, ?_, ?_⟩
        · omega
        · omega
        · first | (rw [cI_t (by omega) (decide_eq_true ‹_ = _›)]; omega) | (rw [cI_f (by omega) (decide_eq_false ‹_›)]; omega)
        · omega
      · refine ⟨show inr (k + 1) from by constructor <;> omega, ?_⟩
        refine hB (29 - (k + 1) : Int).toNat ?_ ⟨rfl, c, (k + 1), rfl, rfl, rfl, rfl, ?_, ?_, ?_⟩
        · omega
        · omega
        · first | (rw [cI_t (by omega) (decide_eq_true ‹_ = _›)]; omega) | (rw [cI_f (by omega) (decide_eq_false ‹_›)]; omega)
        · omega
    · rw [show k = 29 by omega] at hc
      rw [← hc] at k0
      exact k0
  · refine hF (29 - 0 : Int).toNat ?_ ⟨rfl, 0, 0, rfl, rfl, rfl, rfl, ?_, ?_, ?_⟩
    · omega
    · omega
    · rfl
    · omega
set_option maxRecDepth 100000 in
set_option maxHeartbeats 4000000 in
theorem k_countPrinted {a : Int} (hd : 1 ≤ d) (k0 : Q (some (iI (wsI (f 9) (fun s => decide ((f 7 s) = a)) 29))) f g) : wq d 104 [iR 1, iI a] f g Q := by
  obtain ⟨d, rfl⟩ : ∃ e, d = e + 1 := ⟨d - 1, by omega⟩
  refine i_meth [(4, 4)] (fun n j lv st f' g' => (j = 4 ∧ ∃ (c : Int) (k : Int), lv = [some (iR 1), some (iI a), some (iI c), some (iI k)] ∧ st = [] ∧ f = f' ∧ g = g' ∧ (0 ≤ k ∧ k ≤ 29) ∧ (c = wsI (f 9) (fun s => decide (f 7 s = a)) k) ∧ (n : Int) = 29 - k)) 29 (by omega) rfl rfl (fun n j lv st f' g' hn hI O J hO hF hB => ?_) (fun hvs hin O J hO hF => ?_)
  · obtain ⟨rfl, c, k, rfl, rfl, rfl, rfl, hk, hc, hm⟩ := hI
    refine ⟨fun (hh_1 : k < 29) => ?_, fun (hh_1 : ¬ k < 29) => ?_⟩
    · refine ⟨show 0 ≤ (k : Int) ∧ k < 29 from by omega, ?_⟩
      refine ⟨fun (hh_2 : f 7 k = a) => ?_, fun (hh_2 : ¬ f 7 k = a) => ?_⟩
      · refine ⟨show 0 ≤ (k : Int) ∧ k < 29 from by omega, ?_⟩
        refine Or.inr ?_
        refine ⟨show inr (k + 1) from by constructor <;> omega, ?_⟩
        refine hB (29 - (k + 1) : Int).toNat ?_ ⟨rfl, (w32 (c + (f 9 k))), (k + 1), rfl, rfl, rfl, rfl, ?_, ?_, ?_⟩
        · omega
        · omega
        · first | (rw [wsI_t (by omega) (decide_eq_true ‹_ = a›), ← hc]) | (rw [wsI_f (by omega) (decide_eq_false ‹¬ _ = a›), ← hc])
        · omega
      · refine ⟨show inr (k + 1) from by constructor <;> omega, ?_⟩
        refine hB (29 - (k + 1) : Int).toNat ?_ ⟨rfl, c, (k + 1), rfl, rfl, rfl, rfl, ?_, ?_, ?_⟩
        · omega
        · omega
        · first | (rw [wsI_t (by omega) (decide_eq_true ‹_ = a›), ← hc]) | (rw [wsI_f (by omega) (decide_eq_false ‹¬ _ = a›), ← hc])
        · omega
    · rw [show k = 29 by omega] at hc
      rw [← hc] at k0
      exact k0
  · refine hF (29 - 0 : Int).toNat ?_ ⟨rfl, 0, 0, rfl, rfl, rfl, rfl, ?_, ?_, ?_⟩
    · omega
    · omega
    · rfl
    · omega
set_option maxRecDepth 100000 in
set_option maxHeartbeats 4000000 in
theorem k_liars (hd : 2 ≤ d) (hc : 0 ≤ (f (fv 1 0) 0) ∧ (f (fv 1 0) 0) ≤ 8) (k0 : Q (some (iI (stI (fun a => decide (¬ (f 6 a) = -1 ∧ ¬ (f 6 a) = wsI (f 9) (fun s => decide ((f 7 s) = a)) 29)) (f (fv 1 0) 0)))) f g) : wq d 209 [iR 0] f g Q := by
  obtain ⟨d, rfl⟩ : ∃ e, d = e + 1 := ⟨d - 1, by omega⟩
  refine i_meth [(4, 3)] (fun n j lv st f' g' => (j = 4 ∧ ∃ (st0 : Int) (a : Int), lv = [some (iR 0), some (iI st0), some (iI a)] ∧ st = [] ∧ f = f' ∧ g = g' ∧ (0 ≤ a ∧ a ≤ f (fv 1 0) 0) ∧ (st0 = stI (fun a => decide (¬ f 6 a = -1 ∧ ¬ f 6 a = wsI (f 9) (fun s => decide (f 7 s = a)) 29)) a) ∧ (n : Int) = f (fv 1 0) 0 - a)) 8 (by omega) rfl rfl (fun n j lv st f' g' hn hI O J hO hF hB => ?_) (fun hvs hin O J hO hF => ?_)
  · obtain ⟨rfl, st0, a, rfl, rfl, rfl, rfl, ha, hs, hm⟩ := hI
    refine ⟨fun (hh_1 : a < f (fv 1 0) 0) => ?_, fun (hh_1 : ¬ a < f (fv 1 0) 0) => ?_⟩
    · refine ⟨show 0 ≤ (a : Int) ∧ a < 8 from by omega, ?_⟩
      refine ⟨fun (hh_2 : f 6 a = (-1)) => ?_, fun (hh_2 : ¬ f 6 a = (-1)) => ?_⟩
      · refine ⟨show inr (a + 1) from by constructor <;> omega, ?_⟩
        refine hB (f (fv 1 0) 0 - (a + 1) : Int).toNat ?_ ⟨rfl, st0, (a + 1), rfl, rfl, rfl, rfl, ?_, ?_, ?_⟩
        · omega
        · omega
        · rw [stI_f (by omega) (decide_eq_false (fun h => by first | exact h.1 (by assumption) | exact h.2 (by assumption))), ← hs]
        · omega
      · refine ⟨show 0 ≤ (a : Int) ∧ a < 8 from by omega, ?_⟩
        refine hO (k_countPrinted (by omega) ?_)
        refine ⟨fun (hh_3 : f 6 a = wsI (f 9) (fun s => decide ((f 7 s) = a)) 29) => ?_, fun (hh_3 : ¬ f 6 a = wsI (f 9) (fun s => decide ((f 7 s) = a)) 29) => ?_⟩
        · refine ⟨show inr (a + 1) from by constructor <;> omega, ?_⟩
          refine hB (f (fv 1 0) 0 - (a + 1) : Int).toNat ?_ ⟨rfl, st0, (a + 1), rfl, rfl, rfl, rfl, ?_, ?_, ?_⟩
          · omega
          · omega
          · rw [stI_f (by omega) (decide_eq_false (fun h => by first | exact h.1 (by assumption) | exact h.2 (by assumption))), ← hs]
          · omega
        · refine ⟨show inr (a + 1) from by constructor <;> omega, ?_⟩
          refine hB (f (fv 1 0) 0 - (a + 1) : Int).toNat ?_ ⟨rfl, (b_or st0 (b_shl 1 a)), (a + 1), rfl, rfl, rfl, rfl, ?_, ?_, ?_⟩
          · omega
          · omega
          · rw [stI_t (by omega) (decide_eq_true ⟨by assumption, by assumption⟩), ← hs]
          · omega
    · rw [show a = f (fv 1 0) 0 by omega] at hs
      rw [← hs] at k0
      exact k0
  · refine hF (f (fv 1 0) 0 - 0 : Int).toNat ?_ ⟨rfl, 0, 0, rfl, rfl, rfl, rfl, ?_, ?_, ?_⟩
    · omega
    · omega
    · rfl
    · omega
set_option maxRecDepth 100000 in
set_option maxHeartbeats 4000000 in
theorem k_at {i : Int} (hd : 2 ≤ d) (hn : 0 ≤ (f (fv 10 1) 0) ∧ (f (fv 10 1) 0) ≤ 60) (k0 : (0 ≤ i ∧ i < (f (fv 10 1) 0)) → Q (some (iI (f 11 i))) f g) (k1 : (¬ (0 ≤ i ∧ i < (f (fv 10 1) 0))) → Q (some (iI (-1))) f g) : wq d 201 [iR 0, iI i] f g Q := by
  obtain ⟨d, rfl⟩ : ∃ e, d = e + 1 := ⟨d - 1, by omega⟩
  refine i_meth0 rfl rfl (fun O J hO => ?_)
  refine hO (k_has_pg (by omega) (show (f (fv 10 1) 0) ≤ 60 from by omega) (fun (hh_1 : 0 ≤ i ∧ i < (f (fv 10 1) 0)) => ?_) (fun (hh_2 : ¬ (0 ≤ i ∧ i < (f (fv 10 1) 0))) => ?_))
  · refine ⟨fun h => absurd (show (1 : Int) = 0 from h) (by decide), fun _ => ?_⟩
    refine hO (k_get_pg (by omega) (show 0 ≤ i ∧ i < 60 from by omega) ?_)
    exact k0 (by omega)
  · refine ⟨fun _ => ?_, fun h => absurd (show (0 : Int) = 0 from by decide) h⟩
    exact k1 (by omega)
set_option maxRecDepth 100000 in
set_option maxHeartbeats 4000000 in
theorem k_sign {s w : Int} (hd : 2 ≤ d) (k0 : (0 ≤ s ∧ s < 29 ∧ w = 0) → Q (some (iI (f 7 s))) f g) (k1 : (0 ≤ s ∧ s < 29 ∧ w = 1) → Q (some (iI (f 8 s))) f g) (k2 : (0 ≤ s ∧ s < 29 ∧ w = 2) → Q (some (iI (f 9 s))) f g) (k3 : (¬ (0 ≤ s ∧ s < 29 ∧ 0 ≤ w ∧ w ≤ 2)) → Q (some (iI (-2))) f g) : wq d 200 [iR 0, iI s, iI w] f g Q := by
  obtain ⟨d, rfl⟩ : ∃ e, d = e + 1 := ⟨d - 1, by omega⟩
  refine i_meth0 rfl rfl (fun O J hO => ?_)
  refine hO (k_isSign (by omega) (fun (hh_1 : 0 ≤ s) (hh_2 : s < 29) => ?_) (fun (hh_3 : ¬ (0 ≤ s ∧ s < 29)) => ?_))
  · refine ⟨fun h => absurd (show (1 : Int) = 0 from h) (by decide), fun _ => ?_⟩
    refine ⟨fun (hh_4 : w = 0) => ?_, fun (hh_4 : ¬ w = 0) => ?_⟩
    · refine ⟨show 0 ≤ (s : Int) ∧ s < 29 from by omega, ?_⟩
      exact k0 (by omega)
    · refine ⟨fun (hh_5 : w = 1) => ?_, fun (hh_5 : ¬ w = 1) => ?_⟩
      · refine ⟨show 0 ≤ (s : Int) ∧ s < 29 from by omega, ?_⟩
        exact k1 (by omega)
      · refine ⟨fun (hh_6 : w = 2) => ?_, fun (hh_6 : ¬ w = 2) => ?_⟩
        · refine ⟨show 0 ≤ (s : Int) ∧ s < 29 from by omega, ?_⟩
          exact k2 (by omega)
        · exact k3 (by omega)
  · refine ⟨fun _ => ?_, fun h => absurd (show (0 : Int) = 0 from by decide) h⟩
    exact k3 (by omega)
set_option maxRecDepth 100000 in
set_option maxHeartbeats 4000000 in
theorem k_roll {i w : Int} (hd : 1 ≤ d) (hr : 0 ≤ (f (fv 1 13) 0) ∧ (f (fv 1 13) 0) ≤ 200) (k0 : (0 ≤ i ∧ i < (f (fv 1 13) 0) ∧ 0 ≤ w ∧ w ≤ 4) → Q (some (iI (f 19 (i * 5 + w)))) f g) (k1 : (¬ (0 ≤ i ∧ i < (f (fv 1 13) 0) ∧ 0 ≤ w ∧ w ≤ 4)) → Q (some (iI (-1))) f g) : wq d 203 [iR 0, iI i, iI w] f g Q := by
  obtain ⟨d, rfl⟩ : ∃ e, d = e + 1 := ⟨d - 1, by omega⟩
  refine i_meth0 rfl rfl (fun O J hO => ?_)
  refine ⟨fun (hh_1 : i < 0) => ?_, fun (hh_1 : ¬ i < 0) => ?_⟩
  · exact k1 (by omega)
  · refine ⟨fun (hh_2 : i < f (fv 1 13) 0) => ?_, fun (hh_2 : ¬ i < f (fv 1 13) 0) => ?_⟩
    · refine ⟨fun (hh_3 : w < 0) => ?_, fun (hh_3 : ¬ w < 0) => ?_⟩
      · exact k1 (by omega)
      · refine ⟨fun (hh_4 : w < 5) => ?_, fun (hh_4 : ¬ w < 5) => ?_⟩
        · refine Or.inl ⟨show inr (i * 5) from by constructor <;> omega, ?_⟩
          refine Or.inl ⟨show inr ((i * 5) + w) from by constructor <;> omega, ?_⟩
          refine ⟨show 0 ≤ (((i * 5) + w) : Int) ∧ ((i * 5) + w) < 1000 from by omega, ?_⟩
          exact k0 (by omega)
        · exact k1 (by omega)
    · exact k1 (by omega)
set_option maxRecDepth 100000 in
set_option maxHeartbeats 4000000 in
theorem k_look {w : Int} (hd : 1 ≤ d) (k0 : (w = 0) → Q (some (iI (f (fv 1 0) 0))) f g) (k1 : (w = 1) → Q (some (iI (f (fv 10 1) 0))) f g) (k2 : (w = 2) → Q (some (iI (f (fv 12 2) 0))) f g) (k3 : (w = 3) → Q (some (iI (f (fv 1 13) 0))) f g) (k4 : (w = 4) → Q (some (iI (f (fv 1 14) 0))) f g) (k5 : (w = 5) → Q (some (iI (f (fv 1 15) 0))) f g) (k6 : (w = 6) → Q (some (iI (f (fv 1 16) 0))) f g) (k7 : (w = 7) → Q (some (iI (f (fv 15 4) 0))) f g) (k8 : (w = 8) → Q (some (iI (f (fv 48 5) 0))) f g) (k9 : (w = 9) → Q (some (iI (f (fv 1 17) 0))) f g) (k10 : (¬ (0 ≤ w ∧ w ≤ 9)) → Q (some (iI (-1))) f g) : wq d 212 [iR 0, iI w] f g Q := by
  obtain ⟨d, rfl⟩ : ∃ e, d = e + 1 := ⟨d - 1, by omega⟩
  refine i_meth0 rfl rfl (fun O J hO => ?_)
  refine ⟨fun (hh_1 : w = 0) => ?_, fun (hh_1 : ¬ w = 0) => ?_⟩
  · exact k0 (by omega)
  · refine ⟨fun (hh_2 : w = 1) => ?_, fun (hh_2 : ¬ w = 1) => ?_⟩
    · exact k1 (by omega)
    · refine ⟨fun (hh_3 : w = 2) => ?_, fun (hh_3 : ¬ w = 2) => ?_⟩
      · exact k2 (by omega)
      · refine ⟨fun (hh_4 : w = 3) => ?_, fun (hh_4 : ¬ w = 3) => ?_⟩
        · exact k3 (by omega)
        · refine ⟨fun (hh_5 : w = 4) => ?_, fun (hh_5 : ¬ w = 4) => ?_⟩
          · exact k4 (by omega)
          · refine ⟨fun (hh_6 : w = 5) => ?_, fun (hh_6 : ¬ w = 5) => ?_⟩
            · exact k5 (by omega)
            · refine ⟨fun (hh_7 : w = 6) => ?_, fun (hh_7 : ¬ w = 6) => ?_⟩
              · exact k6 (by omega)
              · refine ⟨fun (hh_8 : w = 7) => ?_, fun (hh_8 : ¬ w = 7) => ?_⟩
                · exact k7 (by omega)
                · refine ⟨fun (hh_9 : w = 8) => ?_, fun (hh_9 : ¬ w = 8) => ?_⟩
                  · exact k8 (by omega)
                  · refine ⟨fun (hh_10 : w = 9) => ?_, fun (hh_10 : ¬ w = 9) => ?_⟩
                    · exact k9 (by omega)
                    · exact k10 (by omega)
set_option maxRecDepth 100000 in
set_option maxHeartbeats 4000000 in
theorem k_giveBack (hd : 1 ≤ d) (hu : 0 ≤ (f (fv 48 5) 0) ∧ (f (fv 48 5) 0) ≤ 6) (k0 : ((f (fv 48 5) 0) = 0) → Q (some (iI 0)) f g) (k1 : ∀ f1 : iF, (1 ≤ (f (fv 48 5) 0)) → (f1 (fv 48 5) 0 = (f (fv 48 5) 0) - 1) → (∀ a, 0 ≤ a → a < 8 → f1 2 a = (f 49 (((f (fv 48 5) 0) - 1) * 8 + a))) → (∀ s, 0 ≤ s → s < 29 → f1 9 s = (f 50 (((f (fv 48 5) 0) - 1) * 29 + s))) → (f1 (fv 1 13) 0 = (f 51 ((f (fv 48 5) 0) - 1)) ∧ f1 (fv 1 14) 0 = (f 52 ((f (fv 48 5) 0) - 1)) ∧ f1 (fv 1 17) 0 = (f 53 ((f (fv 48 5) 0) - 1))) → Q (some (iI 1)) (mx [2, 9, fv 48 5, fv 1 13, fv 1 14, fv 1 17] f f1) g) : wq d 179 [iR 48, iR 1] f g Q := by
  obtain ⟨d, rfl⟩ : ∃ e, d = e + 1 := ⟨d - 1, by omega⟩
  refine i_meth0 rfl rfl (fun O J hO => ?_)
  refine ⟨fun (hh_1 : f (fv 48 5) 0 < 1) => ?_, fun (hh_1 : ¬ f (fv 48 5) 0 < 1) => ?_⟩
  · refine ⟨show (0 : Int) = 0 ∨ 0 = 1 from by decide, ?_⟩
    exact k0 (by omega)
  · refine ⟨fun (hh_2 : 6 < f (fv 48 5) 0) => ?_, fun (hh_2 : ¬ 6 < f (fv 48 5) 0) => ?_⟩
    · refine ⟨show (0 : Int) = 0 ∨ 0 = 1 from by decide, ?_⟩
      exact k0 (by omega)
    · refine Or.inl ⟨show inr ((f (fv 48 5) 0) - 1) from by constructor <;> omega, ?_⟩
      refine Or.inl ⟨show inr (((f (fv 48 5) 0) - 1) * 8) from by constructor <;> omega, ?_⟩
      refine ⟨show 0 ≤ ((((f (fv 48 5) 0) - 1) * 8) : Int) ∧ 0 ≤ (0 : Int) ∧ 0 ≤ (8 : Int) ∧ ((((f (fv 48 5) 0) - 1) * 8) : Int) + 8 ≤ 48 ∧ (0 : Int) + 8 ≤ 8 from by omega, ?_⟩
      refine Or.inl ⟨show inr (((f (fv 48 5) 0) - 1) * 29) from by constructor <;> omega, ?_⟩
      refine ⟨show 0 ≤ ((((f (fv 48 5) 0) - 1) * 29) : Int) ∧ 0 ≤ (0 : Int) ∧ 0 ≤ (29 : Int) ∧ ((((f (fv 48 5) 0) - 1) * 29) : Int) + 29 ≤ 174 ∧ (0 : Int) + 29 ≤ 29 from by omega, ?_⟩
      refine ⟨show 0 ≤ (((f (fv 48 5) 0) - 1) : Int) ∧ ((f (fv 48 5) 0) - 1) < 6 from by omega, ?_⟩
      refine ⟨show 0 ≤ (((f (fv 48 5) 0) - 1) : Int) ∧ ((f (fv 48 5) 0) - 1) < 6 from by omega, ?_⟩
      refine ⟨show 0 ≤ (((f (fv 48 5) 0) - 1) : Int) ∧ ((f (fv 48 5) 0) - 1) < 6 from by omega, ?_⟩
      refine ⟨show (1 : Int) = 0 ∨ 1 = 1 from by decide, ?_⟩
      have hk := k1 (wv (wv (wv (acpS (acpS (wv f (fv 48 5) 0 ((f (fv 48 5) 0) - 1)) ((wv f (fv 48 5) 0 ((f (fv 48 5) 0) - 1)) 49) 2 (((f (fv 48 5) 0) - 1) * 8) 0 8) ((acp (wv f (fv 48 5) 0 ((f (fv 48 5) 0) - 1)) 49 2 (((f (fv 48 5) 0) - 1) * 8) 0 8) 50) 9 (((f (fv 48 5) 0) - 1) * 29) 0 29) (fv 1 13) 0 (f 51 ((f (fv 48 5) 0) - 1))) (fv 1 14) 0 (f 52 ((f (fv 48 5) 0) - 1))) (fv 1 17) 0 (f 53 ((f (fv 48 5) 0) - 1))) (by omega) rfl (fun a h0 h1 => by
        show acpS _ _ 2 ((f (fv 48 5) 0 - 1) * 8) 0 8 2 a = _
        rw [acpS_i, if_pos ⟨h0, by omega⟩, Int.sub_zero]
        rfl) (fun s h0 h1 => by
        show acpS _ _ 9 ((f (fv 48 5) 0 - 1) * 29) 0 29 9 s = _
        rw [acpS_i, if_pos ⟨h0, by omega⟩, Int.sub_zero]
        rfl) ⟨rfl, rfl, rfl⟩
      rw [show mx [2, 9, fv 48 5, fv 1 13, fv 1 14, fv 1 17] f (wv (wv (wv (acpS (acpS (wv f (fv 48 5) 0 ((f (fv 48 5) 0) - 1)) ((wv f (fv 48 5) 0 ((f (fv 48 5) 0) - 1)) 49) 2 (((f (fv 48 5) 0) - 1) * 8) 0 8) ((acp (wv f (fv 48 5) 0 ((f (fv 48 5) 0) - 1)) 49 2 (((f (fv 48 5) 0) - 1) * 8) 0 8) 50) 9 (((f (fv 48 5) 0) - 1) * 29) 0 29) (fv 1 13) 0 (f 51 ((f (fv 48 5) 0) - 1))) (fv 1 14) 0 (f 52 ((f (fv 48 5) 0) - 1))) (fv 1 17) 0 (f 53 ((f (fv 48 5) 0) - 1))) = (wv (wv (wv (acp (acp (wv f (fv 48 5) 0 ((f (fv 48 5) 0) - 1)) 49 2 (((f (fv 48 5) 0) - 1) * 8) 0 8) 50 9 (((f (fv 48 5) 0) - 1) * 29) 0 29) (fv 1 13) 0 (f 51 ((f (fv 48 5) 0) - 1))) (fv 1 14) 0 (f 52 ((f (fv 48 5) 0) - 1))) (fv 1 17) 0 (f 53 ((f (fv 48 5) 0) - 1))) from ((mx_wv rfl (mx_wv rfl (mx_wv rfl (mx_acp rfl (mx_acp rfl (mx_wv rfl mx_rf))))))).symm] at hk
      exact hk
set_option maxRecDepth 100000 in
set_option maxHeartbeats 4000000 in
theorem k_undo (hd : 2 ≤ d) (hu : 0 ≤ (f (fv 48 5) 0) ∧ (f (fv 48 5) 0) ≤ 6) (k0 : ((f (fv 48 5) 0) = 0) → Q (some (iI 0)) f g) (k1 : ∀ f1 : iF, (1 ≤ (f (fv 48 5) 0)) → (f1 (fv 48 5) 0 = (f (fv 48 5) 0) - 1) → (∀ a, 0 ≤ a → a < 8 → f1 2 a = (f 49 (((f (fv 48 5) 0) - 1) * 8 + a))) → (∀ s, 0 ≤ s → s < 29 → f1 9 s = (f 50 (((f (fv 48 5) 0) - 1) * 29 + s))) → (f1 (fv 1 13) 0 = (f 51 ((f (fv 48 5) 0) - 1)) ∧ f1 (fv 1 14) 0 = (f 52 ((f (fv 48 5) 0) - 1)) ∧ f1 (fv 1 17) 0 = (f 53 ((f (fv 48 5) 0) - 1))) → Q (some (iI 1)) (mx [2, 9, fv 48 5, fv 1 13, fv 1 14, fv 1 17] f f1) g) : wq d 210 [iR 0] f g Q := by
  obtain ⟨d, rfl⟩ : ∃ e, d = e + 1 := ⟨d - 1, by omega⟩
  refine i_meth0 rfl rfl (fun O J hO => ?_)
  refine hO (k_giveBack (by omega) (show 0 ≤ (f (fv 48 5) 0) ∧ (f (fv 48 5) 0) ≤ 6 from hu) (fun (hh_1 : (f (fv 48 5) 0) = 0) => ?_) (fun f1_2 (hh_3 : 1 ≤ (f (fv 48 5) 0)) (hh_4 : f1_2 (fv 48 5) 0 = (f (fv 48 5) 0) - 1) (hh_5 : ∀ a, 0 ≤ a → a < 8 → f1_2 2 a = (f 49 (((f (fv 48 5) 0) - 1) * 8 + a))) (hh_6 : ∀ s, 0 ≤ s → s < 29 → f1_2 9 s = (f 50 (((f (fv 48 5) 0) - 1) * 29 + s))) (hh_7 : f1_2 (fv 1 13) 0 = (f 51 ((f (fv 48 5) 0) - 1)) ∧ f1_2 (fv 1 14) 0 = (f 52 ((f (fv 48 5) 0) - 1)) ∧ f1_2 (fv 1 17) 0 = (f 53 ((f (fv 48 5) 0) - 1))) => ?_))
  · refine ⟨show (0 : Int) = 0 ∨ 0 = 1 from by decide, ?_⟩
    exact k0 (by assumption)
  · refine ⟨show (1 : Int) = 0 ∨ 1 = 1 from by decide, ?_⟩
    exact k1 f1_2 (by assumption) (by assumption) (by assumption) (by assumption) (by assumption)
end C25
