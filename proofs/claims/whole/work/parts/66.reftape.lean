section C16
variable {d : Nat} {f : iF} {g : iG} {Q : Option iv → iF → iG → Prop}
/-! ===== the reference: the tape, words, images ===== -/
theorem b_and_r (x : Int) : 0 ≤ b_and x 255 ∧ b_and x 255 ≤ 255 := by
  have e : (Int32.ofInt x &&& Int32.ofInt 255).toBitVec.toNat = (Int32.ofInt x).toBitVec.toNat % 256 := by
    show ((Int32.ofInt x).toBitVec &&& (Int32.ofInt 255).toBitVec).toNat = _
    rw [BitVec.toNat_and, show (Int32.ofInt 255).toBitVec.toNat = 2 ^ 8 - 1 by decide, Nat.and_two_pow_sub_one_eq_mod]
  have e2 : b_and x 255 = (((Int32.ofInt x).toBitVec.toNat % 256 : Nat) : Int) := by
    unfold b_and
    show BitVec.toInt _ = _
    rw [BitVec.toInt_eq_toNat_cond, if_pos]
    · exact congrArg (fun z : Nat => (z : Int)) e
    · have : (Int32.ofInt x &&& Int32.ofInt 255).toBitVec.toNat < 256 := by rw [e]; omega
      show 2 * (Int32.ofInt x &&& Int32.ofInt 255).toBitVec.toNat < 2 ^ 32
      omega
  rw [e2]
  omega
theorem byt_r (v z : Int) : 0 ≤ byt v z ∧ byt v z ≤ 255 := b_and_r _
set_option maxRecDepth 100000 in
set_option maxHeartbeats 4000000 in
theorem c_types {v : Int} (hd : 1 ≤ d) (ht : 0 ≤ (f (fv 79 21) 0) ∧ (f (fv 79 21) 0) ≤ 396) (k0 : ∀ f1 : iF, (f1 (fv 79 21) 0 = (f (fv 79 21) 0) + 4) → (∀ q, 0 ≤ q → q < 4 → f1 92 ((f (fv 79 21) 0) + q) = byt v (24 - 8 * q)) → (∀ j, 0 ≤ j → j < (f (fv 79 21) 0) → f1 92 j = (f 92 j)) → Q none (mx [92, fv 79 21] f f1) g) : wq d 19 [iR 79, iI v] f g Q := by
  obtain ⟨d, rfl⟩ : ∃ e, d = e + 1 := ⟨d - 1, by omega⟩
  refine i_meth [(2, 3)] (fun n j lv st f' g' => (j = 2 ∧ ∃ (z : Int) (mm : Int) (f1 : iF), lv = [some (iR 79), some (iI v), some (iI z)] ∧ st = [] ∧ f' = (mx [92, fv 79 21] f f1) ∧ g = g' ∧ (z = 24 - 8 * mm ∧ 0 ≤ mm ∧ mm ≤ 4) ∧ (f1 (fv 79 21) 0 = f (fv 79 21) 0 + mm) ∧ (∀ q, 0 ≤ q → q < mm → f1 92 (f (fv 79 21) 0 + q) = byt v (24 - 8 * q)) ∧ (∀ j, 0 ≤ j → j < f (fv 79 21) 0 → f1 92 j = f 92 j) ∧ (n : Int) = 4 - mm)) 10 (by omega) rfl rfl (fun n j lv st f' g' hn hI O J hO hF hB => ?_) (fun hvs hin O J hO hF => ?_)
  · obtain ⟨rfl, z, mm, f1, rfl, rfl, rfl, rfl, hz, hn, hq, hj, hm⟩ := hI
    refine ⟨fun (hh_1 : z < 0) => ?_, fun (hh_1 : ¬ z < 0) => ?_⟩
    · have hm4 : mm = 4 := by omega
      subst hm4
      exact k0 f1 hn hq hj
    · refine ⟨show 0 ≤ (f1 (fv 79 21) 0 : Int) ∧ f1 (fv 79 21) 0 < 400 from by omega, ?_⟩
      refine Or.inl ⟨show inr ((f1 (fv 79 21) 0) + 1) from by constructor <;> omega, ?_⟩
      refine ⟨show inr (z + (-8)) from by constructor <;> omega, ?_⟩
      refine hB (4 - (mm + 1) : Int).toNat ?_ ⟨rfl, (z + (-8)), (mm + 1), (wv (wv f1 92 (f1 (fv 79 21) 0) (b_and (b_shr v z) 255)) (fv 79 21) 0 ((f1 (fv 79 21) 0) + 1)), rfl, rfl, (mx_wv rfl (mx_wv rfl rfl)), rfl, ?_, ?_, ?_, ?_, ?_⟩
      · omega
      · omega
      · show f1 (fv 79 21) 0 + 1 = _; omega
      · intro q h0 h1
        show wv f1 92 (f1 (fv 79 21) 0) (byt v z) 92 (f (fv 79 21) 0 + q) = _
        rw [wv_i]
        by_cases e : q = mm
        · rw [if_pos (by omega), hz.1, e]
        · rw [if_neg (by omega)]; exact hq q h0 (by omega)
      · intro j h0 h1
        show wv f1 92 (f1 (fv 79 21) 0) _ 92 j = _
        rw [wv_k (by omega)]; exact hj j h0 h1
      · omega
  · refine hF (4 - 0 : Int).toNat ?_ ⟨rfl, 24, 0, f, rfl, rfl, mx_rf, rfl, ?_, ?_, ?_, ?_, ?_⟩
    · omega
    · omega
    · exact (Int.add_zero _).symm
    · intro q h0 h1; omega
    · exact fun _ _ _ => rfl
    · omega
theorem fdB_0 {a b c d e q : Int} (h0 : 0 ≤ q) (h1 : q < 4) : fdB a b c d e q = byt a (24 - 8 * q) := by unfold fdB; rw [if_pos h1, show q % 4 = q by omega]
theorem fdB_1 {a b c d e q : Int} (h0 : 4 ≤ q) (h1 : q < 8) : fdB a b c d e q = byt b (24 - 8 * (q - 4)) := by unfold fdB; rw [if_neg (by omega), if_pos h1, show q % 4 = q - 4 by omega]
theorem fdB_2 {a b c d e q : Int} (h0 : 8 ≤ q) (h1 : q < 12) : fdB a b c d e q = byt c (24 - 8 * (q - 8)) := by unfold fdB; rw [if_neg (by omega), if_neg (by omega), if_pos h1, show q % 4 = q - 8 by omega]
theorem fdB_3 {a b c d e q : Int} (h0 : 12 ≤ q) (h1 : q < 16) : fdB a b c d e q = byt d (24 - 8 * (q - 12)) := by unfold fdB; rw [if_neg (by omega), if_neg (by omega), if_neg (by omega), if_pos h1, show q % 4 = q - 12 by omega]
theorem fdB_4 {a b c d e q : Int} (h0 : 16 ≤ q) (h1 : q < 20) : fdB a b c d e q = byt e (24 - 8 * (q - 16)) := by unfold fdB; rw [if_neg (by omega), if_neg (by omega), if_neg (by omega), if_neg (by omega), show q % 4 = q - 16 by omega]
/-- five times four bytes: rows r0 .. r5, each four longer -/
theorem fd_all {r0 r1 r2 r3 r4 r5 : Int → Int} {t a b c d e : Int}
  (q1 : ∀ q, 0 ≤ q → q < 4 → r1 (t + q) = byt a (24 - 8 * q)) (j1 : ∀ j, 0 ≤ j → j < t → r1 j = r0 j)
  (q2 : ∀ q, 0 ≤ q → q < 4 → r2 (t + 4 + q) = byt b (24 - 8 * q)) (j2 : ∀ j, 0 ≤ j → j < t + 4 → r2 j = r1 j)
  (q3 : ∀ q, 0 ≤ q → q < 4 → r3 (t + 8 + q) = byt c (24 - 8 * q)) (j3 : ∀ j, 0 ≤ j → j < t + 8 → r3 j = r2 j)
  (q4 : ∀ q, 0 ≤ q → q < 4 → r4 (t + 12 + q) = byt d (24 - 8 * q)) (j4 : ∀ j, 0 ≤ j → j < t + 12 → r4 j = r3 j)
  (q5 : ∀ q, 0 ≤ q → q < 4 → r5 (t + 16 + q) = byt e (24 - 8 * q)) (j5 : ∀ j, 0 ≤ j → j < t + 16 → r5 j = r4 j) (ht : 0 ≤ t) :
  (∀ q, 0 ≤ q → q < 20 → r5 (t + q) = fdB a b c d e q) ∧ ∀ j, 0 ≤ j → j < t → r5 j = r0 j := by
  refine ⟨fun q h0 h1 => ?_, fun j h0 h1 => by rw [j5 j h0 (by omega), j4 j h0 (by omega), j3 j h0 (by omega), j2 j h0 (by omega), j1 j h0 h1]⟩
  by_cases e1 : q < 4
  · rw [j5 _ (by omega) (by omega), j4 _ (by omega) (by omega), j3 _ (by omega) (by omega), j2 _ (by omega) (by omega), q1 q h0 e1, fdB_0 h0 e1]
  · by_cases e2 : q < 8
    · rw [j5 _ (by omega) (by omega), j4 _ (by omega) (by omega), j3 _ (by omega) (by omega), fdB_1 (by omega) e2, ← q2 (q - 4) (by omega) (by omega), show t + 4 + (q - 4) = t + q by omega]
    · by_cases e3 : q < 12
      · rw [j5 _ (by omega) (by omega), j4 _ (by omega) (by omega), fdB_2 (by omega) e3, ← q3 (q - 8) (by omega) (by omega), show t + 8 + (q - 8) = t + q by omega]
      · by_cases e4 : q < 16
        · rw [j5 _ (by omega) (by omega), fdB_3 (by omega) e4, ← q4 (q - 12) (by omega) (by omega), show t + 12 + (q - 12) = t + q by omega]
        · rw [fdB_4 (by omega) h1, ← q5 (q - 16) (by omega) (by omega), show t + 16 + (q - 16) = t + q by omega]
set_option maxRecDepth 100000 in
set_option maxHeartbeats 4000000 in
theorem c_feed {a b cc dd ee : Int} (hd : 2 ≤ d) (ht : 0 ≤ (f (fv 79 21) 0) ∧ (f (fv 79 21) 0) ≤ 400) (k0 : (380 < (f (fv 79 21) 0)) → Q (some (iI (-1))) (wv f (fv 79 0) 0 0) g) (k1 : ∀ f1 : iF, ((f (fv 79 21) 0) ≤ 380) → (f1 (fv 79 21) 0 = (f (fv 79 21) 0) + 20) → (∀ q, 0 ≤ q → q < 20 → f1 92 ((f (fv 79 21) 0) + q) = fdB a b cc dd ee q) → (∀ j, 0 ≤ j → j < (f (fv 79 21) 0) → f1 92 j = (f 92 j)) → Q (some (iI ((f (fv 79 21) 0) + 20))) (mx [92, fv 79 21, fv 79 0] f f1) g) : wq d 20 [iR 79, iI a, iI b, iI cc, iI dd, iI ee] f g Q := by
  obtain ⟨d, rfl⟩ : ∃ e, d = e + 1 := ⟨d - 1, by omega⟩
  refine i_meth0 rfl rfl (fun O J hO => ?_)
  refine ⟨fun (hh_1 : 380 < f (fv 79 21) 0) => ?_, fun (hh_1 : ¬ 380 < f (fv 79 21) 0) => ?_⟩
  · exact k0 (by omega)
  · refine hO (c_types (by omega) (show 0 ≤ (f (fv 79 21) 0) ∧ (f (fv 79 21) 0) ≤ 396 from by omega) (fun f1_2 (hh_3 : f1_2 (fv 79 21) 0 = (f (fv 79 21) 0) + 4) (hh_4 : ∀ q, 0 ≤ q → q < 4 → f1_2 92 ((f (fv 79 21) 0) + q) = byt a (24 - 8 * q)) (hh_5 : ∀ j, 0 ≤ j → j < (f (fv 79 21) 0) → f1_2 92 j = (f 92 j)) => ?_))
    have hn1 := hh_3
    have hq1 := hh_4
    have hj1 := hh_5
    have hm1 : f1_2 (fv 79 21) 0 = f (fv 79 21) 0 + 4 := by omega
    refine hO (c_types (by omega) (show 0 ≤ (f1_2 (fv 79 21) 0) ∧ (f1_2 (fv 79 21) 0) ≤ 396 from by omega) (fun f1_6 (hh_7 : f1_6 (fv 79 21) 0 = (f1_2 (fv 79 21) 0) + 4) (hh_8 : ∀ q, 0 ≤ q → q < 4 → f1_6 92 ((f1_2 (fv 79 21) 0) + q) = byt b (24 - 8 * q)) (hh_9 : ∀ j, 0 ≤ j → j < (f1_2 (fv 79 21) 0) → f1_6 92 j = (f1_2 92 j)) => ?_))
    have hn2 := hh_7
    have hq2 := hh_8
    have hj2 := hh_9
    rw [hm1] at hq2 hj2
    have hm2 : f1_6 (fv 79 21) 0 = f (fv 79 21) 0 + 8 := by omega
    refine hO (c_types (by omega) (show 0 ≤ (f1_6 (fv 79 21) 0) ∧ (f1_6 (fv 79 21) 0) ≤ 396 from by omega) (fun f1_10 (hh_11 : f1_10 (fv 79 21) 0 = (f1_6 (fv 79 21) 0) + 4) (hh_12 : ∀ q, 0 ≤ q → q < 4 → f1_10 92 ((f1_6 (fv 79 21) 0) + q) = byt cc (24 - 8 * q)) (hh_13 : ∀ j, 0 ≤ j → j < (f1_6 (fv 79 21) 0) → f1_10 92 j = (f1_6 92 j)) => ?_))
    have hn3 := hh_11
    have hq3 := hh_12
    have hj3 := hh_13
    rw [hm2] at hq3 hj3
    have hm3 : f1_10 (fv 79 21) 0 = f (fv 79 21) 0 + 12 := by omega
    refine hO (c_types (by omega) (show 0 ≤ (f1_10 (fv 79 21) 0) ∧ (f1_10 (fv 79 21) 0) ≤ 396 from by omega) (fun f1_14 (hh_15 : f1_14 (fv 79 21) 0 = (f1_10 (fv 79 21) 0) + 4) (hh_16 : ∀ q, 0 ≤ q → q < 4 → f1_14 92 ((f1_10 (fv 79 21) 0) + q) = byt dd (24 - 8 * q)) (hh_17 : ∀ j, 0 ≤ j → j < (f1_10 (fv 79 21) 0) → f1_14 92 j = (f1_10 92 j)) => ?_))
    have hn4 := hh_15
    have hq4 := hh_16
    have hj4 := hh_17
    rw [hm3] at hq4 hj4
    have hm4 : f1_14 (fv 79 21) 0 = f (fv 79 21) 0 + 16 := by omega
    refine hO (c_types (by omega) (show 0 ≤ (f1_14 (fv 79 21) 0) ∧ (f1_14 (fv 79 21) 0) ≤ 396 from by omega) (fun f1_18 (hh_19 : f1_18 (fv 79 21) 0 = (f1_14 (fv 79 21) 0) + 4) (hh_20 : ∀ q, 0 ≤ q → q < 4 → f1_18 92 ((f1_14 (fv 79 21) 0) + q) = byt ee (24 - 8 * q)) (hh_21 : ∀ j, 0 ≤ j → j < (f1_14 (fv 79 21) 0) → f1_18 92 j = (f1_14 92 j)) => ?_))
    have hn5 := hh_19
    have hq5 := hh_20
    have hj5 := hh_21
    rw [hm4] at hq5 hj5
    have hm5 : f1_18 (fv 79 21) 0 = f (fv 79 21) 0 + 20 := by omega
    obtain ⟨hA, hB2⟩ := fd_all hq1 hj1 hq2 hj2 hq3 hj3 hq4 hj4 hq5 hj5 ht.1
    rw [← hm5] at k1
    have hk := k1 (mx [92, fv 79 21] (mx [92, fv 79 21] (mx [92, fv 79 21] (mx [92, fv 79 21] (mx [92, fv 79 21] (wv f (fv 79 0) 0 0) f1_2) f1_6) f1_10) f1_14) f1_18) (by omega) rfl hA hB2
    rw [show mx [92, fv 79 21, fv 79 0] f (mx [92, fv 79 21] (mx [92, fv 79 21] (mx [92, fv 79 21] (mx [92, fv 79 21] (mx [92, fv 79 21] (wv f (fv 79 0) 0 0) f1_2) f1_6) f1_10) f1_14) f1_18) = (mx [92, fv 79 21] (mx [92, fv 79 21] (mx [92, fv 79 21] (mx [92, fv 79 21] (mx [92, fv 79 21] (wv f (fv 79 0) 0 0) f1_2) f1_6) f1_10) f1_14) f1_18) from ((mx_mx rfl (mx_mx rfl (mx_mx rfl (mx_mx rfl (mx_mx rfl (mx_wv rfl mx_rf))))))).symm] at hk
    exact hk
set_option maxRecDepth 100000 in
set_option maxHeartbeats 4000000 in
theorem c_word (hd : 2 ≤ d) (ht : 0 ≤ (f (fv 79 21) 0) ∧ (f (fv 79 21) 0) ≤ 400) (hwl : 0 ≤ (f (fv 79 17) 0) ∧ (f (fv 79 17) 0) ≤ 20) (k0 : (¬ (1 ≤ (f (fv 79 21) 0) ∧ (f (fv 79 21) 0) ≤ 12 ∧ ¬ (f (fv 79 17) 0) = 20 ∧ ∀ j, 0 ≤ j → j < (f (fv 79 21) 0) → 97 ≤ (f 92 j) ∧ (f 92 j) ≤ 122)) → Q (some (iI (-1))) (wv (wv f (fv 79 0) 0 0) (fv 79 21) 0 0) g) (k1 : ∀ f1 : iF, (1 ≤ (f (fv 79 21) 0) ∧ (f (fv 79 21) 0) ≤ 12 ∧ ¬ (f (fv 79 17) 0) = 20) → (∀ j, 0 ≤ j → j < (f (fv 79 21) 0) → 97 ≤ (f 92 j) ∧ (f 92 j) ≤ 122) → (f1 (fv 79 21) 0 = 0 ∧ f1 (fv 79 17) 0 = (f (fv 79 17) 0) + 1) → (∀ k, f1 90 k = (if k = (f (fv 79 17) 0) then (f (fv 79 21) 0) else (f 90 k))) → ((∀ j, 0 ≤ j → j < (f (fv 79 21) 0) → f1 91 (12 * (f (fv 79 17) 0) + j) = (f 92 j) - 97) ∧ ∀ k, k < 12 * (f (fv 79 17) 0) → f1 91 k = (f 91 k)) → Q (some (iI ((f (fv 79 17) 0) + 1 - 1))) (mx [90, 91, fv 79 0, fv 79 21, fv 79 17] f f1) g) : wq d 16 [iR 79] f g Q := by
  obtain ⟨d, rfl⟩ : ∃ e, d = e + 1 := ⟨d - 1, by omega⟩
  refine i_meth [(23, 3), (44, 3)] (fun n j lv st f' g' => (j = 23 ∧ ∃ (nn : Int) (i : Int) (f1 : iF), lv = [some (iR 79), some (iI nn), some (iI i)] ∧ st = [] ∧ f' = (mx [90, 91, fv 79 0, fv 79 21, fv 79 17] f f1) ∧ g = g' ∧ (nn = f (fv 79 21) 0) ∧ (1 ≤ nn ∧ nn ≤ 12 ∧ ¬ f (fv 79 17) 0 = 20) ∧ (0 ≤ i ∧ i ≤ nn) ∧ (∀ j, 0 ≤ j → j < i → 97 ≤ f 92 j ∧ f 92 j ≤ 122) ∧ (mx [90, 91, fv 79 0, fv 79 21, fv 79 17] f f1 = wv (wv f (fv 79 0) 0 0) (fv 79 21) 0 0) ∧ (f1 (fv 79 17) 0 = f (fv 79 17) 0) ∧ (n : Int) = 40 - i) ∨ (j = 44 ∧ ∃ (nn : Int) (i : Int) (f1 : iF), lv = [some (iR 79), some (iI nn), some (iI i)] ∧ st = [] ∧ f' = (mx [90, 91, fv 79 0, fv 79 21, fv 79 17] f f1) ∧ g = g' ∧ (nn = f (fv 79 21) 0) ∧ (1 ≤ nn ∧ nn ≤ 12 ∧ ¬ f (fv 79 17) 0 = 20) ∧ (0 ≤ i ∧ i ≤ nn) ∧ (∀ j, 0 ≤ j → j < nn → 97 ≤ f 92 j ∧ f 92 j ≤ 122) ∧ (f1 (fv 79 21) 0 = 0) ∧ (f1 (fv 79 17) 0 = f (fv 79 17) 0) ∧ (f1 90 = f 90) ∧ ((∀ j, 0 ≤ j → j < i → f1 91 (12 * f (fv 79 17) 0 + j) = f 92 j - 97) ∧ ∀ k, k < 12 * f (fv 79 17) 0 → f1 91 k = f 91 k) ∧ (n : Int) = 20 - i)) 60 (by omega) rfl rfl (fun n j lv st f' g' hn hI O J hO hF hB => ?_) (fun hvs hin O J hO hF => ?_)
  · rcases hI with hI | hI
    · obtain ⟨rfl, nn, i, f1, rfl, rfl, rfl, rfl, hn, hr, hi, hz, hst, h17, hm⟩ := hI
      refine ⟨fun (hh_1 : i < nn) => ?_, fun (hh_1 : ¬ i < nn) => ?_⟩
      · refine ⟨show 0 ≤ (i : Int) ∧ i < 400 from by omega, ?_⟩
        refine ⟨fun (hh_2 : f 92 i < 97) => ?_, fun (hh_2 : ¬ f 92 i < 97) => ?_⟩
        · have hk := k0 (fun h => by have := h.2.2.2 i (by omega) (by omega); omega)
          rw [← hst] at hk
          exact hk
        · refine ⟨show 0 ≤ (i : Int) ∧ i < 400 from by omega, ?_⟩
          refine ⟨fun (hh_3 : 122 < f 92 i) => ?_, fun (hh_3 : ¬ 122 < f 92 i) => ?_⟩
          · have hk := k0 (fun h => by have := h.2.2.2 i (by omega) (by omega); omega)
            rw [← hst] at hk
            exact hk
          · refine ⟨show inr (i + 1) from by constructor <;> omega, ?_⟩
            refine hB (40 - (i + 1) : Int).toNat ?_ (Or.inl ⟨rfl, nn, (i + 1), f1, rfl, rfl, rfl, rfl, ?_, ?_, ?_, ?_, ?_, ?_, ?_⟩)
            · omega
            · omega
            · omega
            · omega
            · intro j h0 h1
              by_cases e : j = i
              · rw [e]; omega
              · exact hz j h0 (by omega)
            · exact hst
            · exact h17
            · omega
      · refine hF (20 - 0 : Int).toNat ?_ (Or.inr (⟨rfl, nn, 0, f1, rfl, rfl, rfl, rfl, ?_, ?_, ?_, ?_, ?_, ?_, ?_, ?_, ?_⟩))
        · omega
        · omega
        · omega
        · omega
        · intro j h0 h1; exact hz j h0 (by omega)
        · exact congrFun (congrFun hst (fv 79 21)) 0
        · exact h17
        · exact congrFun hst 90
        · exact ⟨fun j h0 h1 => by omega, fun k h0 => congrFun (congrFun hst 91) k⟩
        · omega
    · obtain ⟨rfl, nn, i, f1, rfl, rfl, rfl, rfl, hn, hr, hi, hz, h21, h17, h90, h91, hm⟩ := hI
      refine ⟨fun (hh_4 : i < nn) => ?_, fun (hh_4 : ¬ i < nn) => ?_⟩
      · have hzi := hz i (by omega) (by omega)
        refine Or.inl ⟨show inr (12 * (f1 (fv 79 17) 0)) from by constructor <;> omega, ?_⟩
        refine Or.inl ⟨show inr ((12 * (f1 (fv 79 17) 0)) + i) from by constructor <;> omega, ?_⟩
        refine ⟨show 0 ≤ (i : Int) ∧ i < 400 from by omega, ?_⟩
        refine Or.inl ⟨show inr ((f 92 i) - 97) from by constructor <;> omega, ?_⟩
        refine ⟨show 0 ≤ (((12 * (f1 (fv 79 17) 0)) + i) : Int) ∧ ((12 * (f1 (fv 79 17) 0)) + i) < 240 from by omega, ?_⟩
        refine ⟨show inr (i + 1) from by constructor <;> omega, ?_⟩
        refine hB (20 - (i + 1) : Int).toNat ?_ (Or.inr (⟨rfl, nn, (i + 1), (wv f1 91 ((12 * (f1 (fv 79 17) 0)) + i) ((f 92 i) - 97)), rfl, rfl, (mx_wv rfl rfl), rfl, ?_, ?_, ?_, ?_, ?_, ?_, ?_, ?_, ?_⟩))
        · omega
        · omega
        · omega
        · omega
        · exact hz
        · exact h21
        · exact h17
        · exact h90
        · refine ⟨fun j h0 h1 => ?_, fun k h0 => ?_⟩
          · rw [wv_i]
            by_cases e : j = i
            · rw [if_pos (by rw [h17]; omega), e]
            · rw [if_neg (by rw [h17]; omega)]; exact h91.1 j h0 (by omega)
          · rw [wv_k (by rw [h17]; omega)]; exact h91.2 k h0
        · omega
      · refine ⟨show 0 ≤ (f1 (fv 79 17) 0 : Int) ∧ f1 (fv 79 17) 0 < 20 from by omega, ?_⟩
        refine Or.inl ⟨show inr ((f1 (fv 79 17) 0) + 1) from by constructor <;> omega, ?_⟩
        refine Or.inl ⟨show inr (((f1 (fv 79 17) 0) + 1) - 1) from by constructor <;> omega, ?_⟩
        rw [← h17] at k1
        have hk := k1 (wv (wv f1 90 (f1 (fv 79 17) 0) nn) (fv 79 17) 0 ((f1 (fv 79 17) 0) + 1)) (by omega) (fun j h0 h1 => hz j h0 (by omega)) ⟨h21, rfl⟩ (fun k => by
          show wv f1 90 (f1 (fv 79 17) 0) nn 90 k = _
          rw [wv_i, h90, hn]) ⟨fun j h0 h1 => by rw [h17]; exact h91.1 j h0 (by omega), fun k h0 => h91.2 k (by rw [← h17]; exact h0)⟩
        rw [show mx [90, 91, fv 79 0, fv 79 21, fv 79 17] f (wv (wv f1 90 (f1 (fv 79 17) 0) nn) (fv 79 17) 0 ((f1 (fv 79 17) 0) + 1)) = (wv (wv (mx [90, 91, fv 79 0, fv 79 21, fv 79 17] f f1) 90 (f1 (fv 79 17) 0) nn) (fv 79 17) 0 ((f1 (fv 79 17) 0) + 1)) from ((mx_wv rfl (mx_wv rfl rfl))).symm] at hk
        exact hk
  · refine hO (c_isIn (by omega) (fun (hh_5 : 1 ≤ (f (fv 79 21) 0)) (hh_6 : (f (fv 79 21) 0) ≤ 12) => ?_) (fun (hh_7 : ¬ (1 ≤ (f (fv 79 21) 0) ∧ (f (fv 79 21) 0) ≤ 12)) => ?_))
    · refine ⟨fun h => absurd (show (1 : Int) = 0 from h) (by decide), fun _ => ?_⟩
      refine ⟨fun (hh_8 : f (fv 79 17) 0 = 20) => ?_, fun (hh_8 : ¬ f (fv 79 17) 0 = 20) => ?_⟩
      · exact k0 (by omega)
      · refine hF (40 - 0 : Int).toNat ?_ (Or.inl ⟨rfl, f (fv 79 21) 0, 0, (wv (wv f (fv 79 0) 0 0) (fv 79 21) 0 0), rfl, rfl, (mx_wv rfl (mx_wv rfl mx_rf)), rfl, ?_, ?_, ?_, ?_, ?_, ?_, ?_⟩)
        · omega
        · rfl
        · omega
        · omega
        · intro j h0 h1; omega
        · exact (mx_wv rfl (mx_wv rfl mx_rf)).symm
        · rfl
        · omega
    · refine ⟨fun _ => ?_, fun h => absurd (show (0 : Int) = 0 from by decide) h⟩
      exact k0 (by omega)
end C16
