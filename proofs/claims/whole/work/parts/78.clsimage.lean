section C28
variable {d : Nat} {f : iF} {g : iG} {Q : Option iv → iF → iG → Prop}
/-! ===== the class: taking over rows, words, laws, houses ===== -/
theorem wg_i {g : iG} {c : Nat} {k k' : Int} {v : Int64} : wg g c k v c k' = if k' = k then v else g c k' := by
  unfold wg
  by_cases h : k' = k
  · rw [if_pos ⟨rfl, h⟩, if_pos h]
  · rw [if_neg (fun e => h e.2), if_neg h]
theorem mOK_m1 {g : iG} (w : Lw) (h : ∀ k, 0 ≤ k → k < 384 → g 59 k = Int64.ofInt (-1)) : mOK w g := by
  intro c h0 h1
  left
  rw [h c h0 h1]
  decide
set_option maxRecDepth 100000 in
set_option maxHeartbeats 4000000 in
theorem k_fillL {v : Int64} (hd : 1 ≤ d) (k0 : ∀ g1 : iG, (∀ k, 0 ≤ k → k < 384 → g1 59 k = v) → Q none f g1) : wq d 85 [iR 59, iJ v] f g Q := by
  obtain ⟨d, rfl⟩ : ∃ e, d = e + 1 := ⟨d - 1, by omega⟩
  refine i_meth [(5, 5)] (fun n j lv st f' g' => (j = 5 ∧ ∃ (k : Int) (m : Int) (g1 : iG), lv = [some (iR 59), some (iJ v), none, some (iI k), some (iI m)] ∧ st = [] ∧ f = f' ∧ g1 = g' ∧ (m = 384) ∧ (0 ≤ k ∧ k ≤ m) ∧ (∀ j, 0 ≤ j → j < k → g1 59 j = v) ∧ (n : Int) = 384 - k)) 384 (by omega) rfl rfl (fun n j lv st f' g' hn hI O J hO hF hB => ?_) (fun hvs hin O J hO hF => ?_)
  · obtain ⟨rfl, k, m, g1, rfl, rfl, rfl, rfl, hm2, hk, hz, hm⟩ := hI
    refine ⟨fun (hh_1 : k < m) => ?_, fun (hh_1 : ¬ k < m) => ?_⟩
    · refine ⟨show 0 ≤ (k : Int) ∧ k < 384 from by omega, ?_⟩
      refine ⟨show inr (k + 1) from by constructor <;> omega, ?_⟩
      refine hB (384 - (k + 1) : Int).toNat ?_ ⟨rfl, (k + 1), m, (wg g1 59 k v), rfl, rfl, rfl, rfl, ?_, ?_, ?_, ?_⟩
      · omega
      · omega
      · omega
      · intro j h0 h1
        rw [wg_i]
        by_cases e : j = k
        · rw [if_pos e]
        · rw [if_neg e]; exact hz j h0 (by omega)
      · omega
    · exact k0 g1 (fun j h0 h1 => hz j h0 (by omega))
  · refine hF (384 - 0 : Int).toNat ?_ ⟨rfl, 0, 384, g, rfl, rfl, rfl, rfl, ?_, ?_, ?_, ?_⟩
    · omega
    · rfl
    · omega
    · intro j h0 h1; omega
    · omega
set_option maxRecDepth 100000 in
set_option maxHeartbeats 4000000 in
theorem k_forgetPays (hd : 2 ≤ d) (k0 : ∀ g1 : iG, (∀ w, mOK w g1) → Q none f g1) : wq d 139 [iR 54] f g Q := by
  obtain ⟨d, rfl⟩ : ∃ e, d = e + 1 := ⟨d - 1, by omega⟩
  refine i_meth0 rfl rfl (fun O J hO => ?_)
  refine hO (k_fillL (by omega) (fun g1_1 (hh_2 : ∀ k, 0 ≤ k → k < 384 → g1_1 59 k = (Int64.ofInt (-1))) => ?_))
  exact k0 g1_1 (fun w => mOK_m1 w (by assumption))
set_option maxRecDepth 100000 in
set_option maxHeartbeats 4000000 in
theorem k_lawChanged (hd : 3 ≤ d) (k0 : ∀ g1 : iG, (∀ w, mOK w g1) → Q none (wv (wv (wv f (fv 62 0) 0 0) (fv 72 0) 0 (-1)) (fv 76 0) 0 0) g1) : wq d 214 [iR 0] f g Q := by
  obtain ⟨d, rfl⟩ : ∃ e, d = e + 1 := ⟨d - 1, by omega⟩
  refine i_meth0 rfl rfl (fun O J hO => ?_)
  refine hO (k_forgetPays (by omega) (fun g1_1 (hh_2 : ∀ w, mOK w g1_1) => ?_))
  refine hO (k_forget (by omega) ?_)
  exact k0 g1_1 (by assumption)
set_option maxRecDepth 100000 in
set_option maxHeartbeats 4000000 in
theorem k_get_kp {i : Int} (hd : 1 ≤ d) (hi : 0 ≤ i ∧ i < 60) (k0 : Q (some (iI (f 30 i))) f g) : wq d 171 [iR 29, iI i] f g Q := by
  obtain ⟨d, rfl⟩ : ∃ e, d = e + 1 := ⟨d - 1, by omega⟩
  refine i_meth0 rfl rfl (fun O J hO => ?_)
  refine ⟨fun h => absurd (show i < 0 from h) (by omega), fun _ => ?_⟩
  refine ⟨fun _ => ?_, fun h => absurd (show i < 60 from by omega) h⟩
  refine ⟨show 0 ≤ (i : Int) ∧ i < 60 from by omega, ?_⟩
  exact k0
set_option maxRecDepth 100000 in
set_option maxHeartbeats 4000000 in
theorem k_rtake_kp (hd : 2 ≤ d) (hn : 0 ≤ (f (fv 10 1) 0) ∧ (f (fv 10 1) 0) ≤ 60) (k0 : ∀ f1 : iF, (f1 (fv 29 1) 0 = (f (fv 10 1) 0)) → (∀ q, 0 ≤ q → q < (f (fv 10 1) 0) → f1 30 q = (f 11 q)) → Q none (mx [30, fv 29 1] f f1) g) : wq d 174 [iR 29, iR 10] f g Q := by
  obtain ⟨d, rfl⟩ : ∃ e, d = e + 1 := ⟨d - 1, by omega⟩
  refine i_meth [(10, 3)] (fun n j lv st f' g' => (j = 10 ∧ ∃ (i : Int) (f1 : iF), lv = [some (iR 29), some (iR 10), some (iI i)] ∧ st = [] ∧ f' = (mx [30, fv 29 1] f f1) ∧ g = g' ∧ (0 ≤ i ∧ i ≤ f (fv 10 1) 0) ∧ (f1 (fv 29 1) 0 = f (fv 10 1) 0) ∧ (∀ q, 0 ≤ q → q < i → f1 30 q = f 11 q) ∧ (n : Int) = f (fv 10 1) 0 - i)) 60 (by omega) rfl rfl (fun n j lv st f' g' hn hI O J hO hF hB => ?_) (fun hvs hin O J hO hF => ?_)
  · obtain ⟨rfl, i, f1, rfl, rfl, rfl, rfl, hi, hl, hz, hm⟩ := hI
    refine ⟨fun (hh_1 : i < f1 (fv 29 1) 0) => ?_, fun (hh_1 : ¬ i < f1 (fv 29 1) 0) => ?_⟩
    · refine hO (k_get_pg (by omega) (show 0 ≤ i ∧ i < 60 from by omega) ?_)
      refine ⟨show 0 ≤ (i : Int) ∧ i < 60 from by omega, ?_⟩
      refine ⟨show inr (i + 1) from by constructor <;> omega, ?_⟩
      refine hB (f (fv 10 1) 0 - (i + 1) : Int).toNat ?_ ⟨rfl, (i + 1), (wv f1 30 i (f 11 i)), rfl, rfl, (mx_wv rfl rfl), rfl, ?_, ?_, ?_, ?_⟩
      · omega
      · omega
      · exact hl
      · intro q h0 h1
        rw [wv_i]
        by_cases e : q = i
        · rw [if_pos e, e]
        · rw [if_neg e]; exact hz q h0 (by omega)
      · omega
    · exact k0 f1 hl (fun q h0 h1 => hz q h0 (by omega))
  · refine hF (f (fv 10 1) 0 - 0 : Int).toNat ?_ ⟨rfl, 0, (wv f (fv 29 1) 0 (min (f (fv 10 1) 0) 60)), rfl, rfl, (mx_wv rfl mx_rf), rfl, ?_, ?_, ?_, ?_⟩
    · omega
    · omega
    · show min _ _ = _; omega
    · intro q h0 h1; omega
    · omega
set_option maxRecDepth 100000 in
set_option maxHeartbeats 4000000 in
theorem k_rtake_bk (hd : 2 ≤ d) (hn : 0 ≤ (f (fv 29 1) 0) ∧ (f (fv 29 1) 0) ≤ 60) (k0 : ∀ f1 : iF, (f1 (fv 10 1) 0 = (f (fv 29 1) 0)) → (∀ q, 0 ≤ q → q < (f (fv 29 1) 0) → f1 11 q = (f 30 q)) → Q none (mx [11, fv 10 1] f f1) g) : wq d 174 [iR 10, iR 29] f g Q := by
  obtain ⟨d, rfl⟩ : ∃ e, d = e + 1 := ⟨d - 1, by omega⟩
  refine i_meth [(10, 3)] (fun n j lv st f' g' => (j = 10 ∧ ∃ (i : Int) (f1 : iF), lv = [some (iR 10), some (iR 29), some (iI i)] ∧ st = [] ∧ f' = (mx [11, fv 10 1] f f1) ∧ g = g' ∧ (0 ≤ i ∧ i ≤ f (fv 29 1) 0) ∧ (f1 (fv 10 1) 0 = f (fv 29 1) 0) ∧ (∀ q, 0 ≤ q → q < i → f1 11 q = f 30 q) ∧ (n : Int) = f (fv 29 1) 0 - i)) 60 (by omega) rfl rfl (fun n j lv st f' g' hn hI O J hO hF hB => ?_) (fun hvs hin O J hO hF => ?_)
  · obtain ⟨rfl, i, f1, rfl, rfl, rfl, rfl, hi, hl, hz, hm⟩ := hI
    refine ⟨fun (hh_1 : i < f1 (fv 10 1) 0) => ?_, fun (hh_1 : ¬ i < f1 (fv 10 1) 0) => ?_⟩
    · refine hO (k_get_kp (by omega) (show 0 ≤ i ∧ i < 60 from by omega) ?_)
      refine ⟨show 0 ≤ (i : Int) ∧ i < 60 from by omega, ?_⟩
      refine ⟨show inr (i + 1) from by constructor <;> omega, ?_⟩
      refine hB (f (fv 29 1) 0 - (i + 1) : Int).toNat ?_ ⟨rfl, (i + 1), (wv f1 11 i (f 30 i)), rfl, rfl, (mx_wv rfl rfl), rfl, ?_, ?_, ?_, ?_⟩
      · omega
      · omega
      · exact hl
      · intro q h0 h1
        rw [wv_i]
        by_cases e : q = i
        · rw [if_pos e, e]
        · rw [if_neg e]; exact hz q h0 (by omega)
      · omega
    · exact k0 f1 hl (fun q h0 h1 => hz q h0 (by omega))
  · refine hF (f (fv 29 1) 0 - 0 : Int).toNat ?_ ⟨rfl, 0, (wv f (fv 10 1) 0 (min (f (fv 29 1) 0) 60)), rfl, rfl, (mx_wv rfl mx_rf), rfl, ?_, ?_, ?_, ?_⟩
    · omega
    · omega
    · show min _ _ = _; omega
    · intro q h0 h1; omega
    · omega
set_option maxRecDepth 100000 in
set_option maxHeartbeats 4000000 in
theorem k_rtake_rm (hd : 2 ≤ d) (hn : 0 ≤ (f (fv 10 1) 0) ∧ (f (fv 10 1) 0) ≤ 12) (k0 : ∀ f1 : iF, (f1 (fv 64 1) 0 = (f (fv 10 1) 0)) → (∀ q, 0 ≤ q → q < (f (fv 10 1) 0) → f1 65 q = (f 11 q)) → Q none (mx [65, fv 64 1] f f1) g) : wq d 174 [iR 64, iR 10] f g Q := by
  obtain ⟨d, rfl⟩ : ∃ e, d = e + 1 := ⟨d - 1, by omega⟩
  refine i_meth [(10, 3)] (fun n j lv st f' g' => (j = 10 ∧ ∃ (i : Int) (f1 : iF), lv = [some (iR 64), some (iR 10), some (iI i)] ∧ st = [] ∧ f' = (mx [65, fv 64 1] f f1) ∧ g = g' ∧ (0 ≤ i ∧ i ≤ f (fv 10 1) 0) ∧ (f1 (fv 64 1) 0 = f (fv 10 1) 0) ∧ (∀ q, 0 ≤ q → q < i → f1 65 q = f 11 q) ∧ (n : Int) = f (fv 10 1) 0 - i)) 60 (by omega) rfl rfl (fun n j lv st f' g' hn hI O J hO hF hB => ?_) (fun hvs hin O J hO hF => ?_)
  · obtain ⟨rfl, i, f1, rfl, rfl, rfl, rfl, hi, hl, hz, hm⟩ := hI
    refine ⟨fun (hh_1 : i < f1 (fv 64 1) 0) => ?_, fun (hh_1 : ¬ i < f1 (fv 64 1) 0) => ?_⟩
    · refine hO (k_get_pg (by omega) (show 0 ≤ i ∧ i < 60 from by omega) ?_)
      refine ⟨show 0 ≤ (i : Int) ∧ i < 12 from by omega, ?_⟩
      refine ⟨show inr (i + 1) from by constructor <;> omega, ?_⟩
      refine hB (f (fv 10 1) 0 - (i + 1) : Int).toNat ?_ ⟨rfl, (i + 1), (wv f1 65 i (f 11 i)), rfl, rfl, (mx_wv rfl rfl), rfl, ?_, ?_, ?_, ?_⟩
      · omega
      · omega
      · exact hl
      · intro q h0 h1
        rw [wv_i]
        by_cases e : q = i
        · rw [if_pos e, e]
        · rw [if_neg e]; exact hz q h0 (by omega)
      · omega
    · exact k0 f1 hl (fun q h0 h1 => hz q h0 (by omega))
  · refine hF (f (fv 10 1) 0 - 0 : Int).toNat ?_ ⟨rfl, 0, (wv f (fv 64 1) 0 (min (f (fv 10 1) 0) 12)), rfl, rfl, (mx_wv rfl mx_rf), rfl, ?_, ?_, ?_, ?_⟩
    · omega
    · omega
    · show min _ _ = _; omega
    · intro q h0 h1; omega
    · omega
set_option maxRecDepth 100000 in
set_option maxHeartbeats 4000000 in
theorem k_wtake_kp (hd : 1 ≤ d) (k0 : ∀ f1 : iF, (∀ q, 0 ≤ q → q < 240 → f1 32 q = (f 13 q)) → (∀ q, 0 ≤ q → q < 20 → f1 33 q = (f 14 q)) → (f1 (fv 31 2) 0 = (f (fv 12 2) 0)) → Q none (mx [32, 33, fv 31 2] f f1) g) : wq d 184 [iR 31, iR 12] f g Q := by
  obtain ⟨d, rfl⟩ : ∃ e, d = e + 1 := ⟨d - 1, by omega⟩
  refine i_meth0 rfl rfl (fun O J hO => ?_)
  refine ⟨show 0 ≤ (0 : Int) ∧ 0 ≤ (0 : Int) ∧ 0 ≤ (240 : Int) ∧ (0 : Int) + 240 ≤ 240 ∧ (0 : Int) + 240 ≤ 240 from by decide, ?_⟩
  refine ⟨show 0 ≤ (0 : Int) ∧ 0 ≤ (0 : Int) ∧ 0 ≤ (20 : Int) ∧ (0 : Int) + 20 ≤ 20 ∧ (0 : Int) + 20 ≤ 20 from by decide, ?_⟩
  have hk := k0 (wv (acpS (acpS f (f 13) 32 0 0 240) ((acp f 13 32 0 0 240) 14) 33 0 0 20) (fv 31 2) 0 (f (fv 12 2) 0)) (fun q h0 h1 => by
    show acpS _ _ 32 0 0 240 32 q = _
    rw [acpS_i, if_pos ⟨by omega, by omega⟩, Int.sub_zero, Int.zero_add]
    try rfl) (fun q h0 h1 => by
    show acpS _ _ 33 0 0 20 33 q = _
    rw [acpS_i, if_pos ⟨by omega, by omega⟩, Int.sub_zero, Int.zero_add]
    try rfl) rfl
  rw [show mx [32, 33, fv 31 2] f (wv (acpS (acpS f (f 13) 32 0 0 240) ((acp f 13 32 0 0 240) 14) 33 0 0 20) (fv 31 2) 0 (f (fv 12 2) 0)) = (wv (acp (acp f 13 32 0 0 240) 14 33 0 0 20) (fv 31 2) 0 (f (fv 12 2) 0)) from ((mx_wv rfl (mx_acp rfl (mx_acp rfl mx_rf)))).symm] at hk
  exact hk
set_option maxRecDepth 100000 in
set_option maxHeartbeats 4000000 in
theorem k_wtake_bk (hd : 1 ≤ d) (k0 : ∀ f1 : iF, (∀ q, 0 ≤ q → q < 240 → f1 13 q = (f 32 q)) → (∀ q, 0 ≤ q → q < 20 → f1 14 q = (f 33 q)) → (f1 (fv 12 2) 0 = (f (fv 31 2) 0)) → Q none (mx [13, 14, fv 12 2] f f1) g) : wq d 184 [iR 12, iR 31] f g Q := by
  obtain ⟨d, rfl⟩ : ∃ e, d = e + 1 := ⟨d - 1, by omega⟩
  refine i_meth0 rfl rfl (fun O J hO => ?_)
  refine ⟨show 0 ≤ (0 : Int) ∧ 0 ≤ (0 : Int) ∧ 0 ≤ (240 : Int) ∧ (0 : Int) + 240 ≤ 240 ∧ (0 : Int) + 240 ≤ 240 from by decide, ?_⟩
  refine ⟨show 0 ≤ (0 : Int) ∧ 0 ≤ (0 : Int) ∧ 0 ≤ (20 : Int) ∧ (0 : Int) + 20 ≤ 20 ∧ (0 : Int) + 20 ≤ 20 from by decide, ?_⟩
  have hk := k0 (wv (acpS (acpS f (f 32) 13 0 0 240) ((acp f 32 13 0 0 240) 33) 14 0 0 20) (fv 12 2) 0 (f (fv 31 2) 0)) (fun q h0 h1 => by
    show acpS _ _ 13 0 0 240 13 q = _
    rw [acpS_i, if_pos ⟨by omega, by omega⟩, Int.sub_zero, Int.zero_add]
    try rfl) (fun q h0 h1 => by
    show acpS _ _ 14 0 0 20 14 q = _
    rw [acpS_i, if_pos ⟨by omega, by omega⟩, Int.sub_zero, Int.zero_add]
    try rfl) rfl
  rw [show mx [13, 14, fv 12 2] f (wv (acpS (acpS f (f 32) 13 0 0 240) ((acp f 32 13 0 0 240) 33) 14 0 0 20) (fv 12 2) 0 (f (fv 31 2) 0)) = (wv (acp (acp f 32 13 0 0 240) 33 14 0 0 20) (fv 12 2) 0 (f (fv 31 2) 0)) from ((mx_wv rfl (mx_acp rfl (mx_acp rfl mx_rf)))).symm] at hk
  exact hk
set_option maxRecDepth 100000 in
set_option maxHeartbeats 4000000 in
theorem k_ltake_kp (hd : 1 ≤ d) (k0 : ∀ f1 : iF, (∀ q, 0 ≤ q → q < 400 → f1 35 q = (f 16 q)) → (∀ q, 0 ≤ q → q < 17 → f1 36 q = (f 17 q)) → (∀ q, 0 ≤ q → q < 16 → f1 37 q = (f 18 q)) → (f1 (fv 34 3) 0 = (f (fv 15 3) 0) ∧ f1 (fv 34 4) 0 = (f (fv 15 4) 0) ∧ f1 (fv 34 5) 0 = (f (fv 15 5) 0)) → Q none (mx [35, 36, 37, fv 34 3, fv 34 4, fv 34 5] f f1) g) : wq d 116 [iR 34, iR 15] f g Q := by
  obtain ⟨d, rfl⟩ : ∃ e, d = e + 1 := ⟨d - 1, by omega⟩
  refine i_meth0 rfl rfl (fun O J hO => ?_)
  refine ⟨show 0 ≤ (0 : Int) ∧ 0 ≤ (0 : Int) ∧ 0 ≤ (400 : Int) ∧ (0 : Int) + 400 ≤ 400 ∧ (0 : Int) + 400 ≤ 400 from by decide, ?_⟩
  refine ⟨show 0 ≤ (0 : Int) ∧ 0 ≤ (0 : Int) ∧ 0 ≤ (17 : Int) ∧ (0 : Int) + 17 ≤ 17 ∧ (0 : Int) + 17 ≤ 17 from by decide, ?_⟩
  refine ⟨show 0 ≤ (0 : Int) ∧ 0 ≤ (0 : Int) ∧ 0 ≤ (16 : Int) ∧ (0 : Int) + 16 ≤ 16 ∧ (0 : Int) + 16 ≤ 16 from by decide, ?_⟩
  have hk := k0 (wv (wv (wv (acpS (acpS (acpS f (f 16) 35 0 0 400) ((acp f 16 35 0 0 400) 17) 36 0 0 17) ((acp (acp f 16 35 0 0 400) 17 36 0 0 17) 18) 37 0 0 16) (fv 34 3) 0 (f (fv 15 3) 0)) (fv 34 4) 0 (f (fv 15 4) 0)) (fv 34 5) 0 (f (fv 15 5) 0)) (fun q h0 h1 => by
    show acpS _ _ 35 0 0 400 35 q = _
    rw [acpS_i, if_pos ⟨by omega, by omega⟩, Int.sub_zero, Int.zero_add]
    try rfl) (fun q h0 h1 => by
    show acpS _ _ 36 0 0 17 36 q = _
    rw [acpS_i, if_pos ⟨by omega, by omega⟩, Int.sub_zero, Int.zero_add]
    try rfl) (fun q h0 h1 => by
    show acpS _ _ 37 0 0 16 37 q = _
    rw [acpS_i, if_pos ⟨by omega, by omega⟩, Int.sub_zero, Int.zero_add]
    try rfl) ⟨rfl, rfl, rfl⟩
  rw [show mx [35, 36, 37, fv 34 3, fv 34 4, fv 34 5] f (wv (wv (wv (acpS (acpS (acpS f (f 16) 35 0 0 400) ((acp f 16 35 0 0 400) 17) 36 0 0 17) ((acp (acp f 16 35 0 0 400) 17 36 0 0 17) 18) 37 0 0 16) (fv 34 3) 0 (f (fv 15 3) 0)) (fv 34 4) 0 (f (fv 15 4) 0)) (fv 34 5) 0 (f (fv 15 5) 0)) = (wv (wv (wv (acp (acp (acp f 16 35 0 0 400) 17 36 0 0 17) 18 37 0 0 16) (fv 34 3) 0 (f (fv 15 3) 0)) (fv 34 4) 0 (f (fv 15 4) 0)) (fv 34 5) 0 (f (fv 15 5) 0)) from ((mx_wv rfl (mx_wv rfl (mx_wv rfl (mx_acp rfl (mx_acp rfl (mx_acp rfl mx_rf))))))).symm] at hk
  exact hk
set_option maxRecDepth 100000 in
set_option maxHeartbeats 4000000 in
theorem k_ltake_bk (hd : 1 ≤ d) (k0 : ∀ f1 : iF, (∀ q, 0 ≤ q → q < 400 → f1 16 q = (f 35 q)) → (∀ q, 0 ≤ q → q < 17 → f1 17 q = (f 36 q)) → (∀ q, 0 ≤ q → q < 16 → f1 18 q = (f 37 q)) → (f1 (fv 15 3) 0 = (f (fv 34 3) 0) ∧ f1 (fv 15 4) 0 = (f (fv 34 4) 0) ∧ f1 (fv 15 5) 0 = (f (fv 34 5) 0)) → Q none (mx [16, 17, 18, fv 15 3, fv 15 4, fv 15 5] f f1) g) : wq d 116 [iR 15, iR 34] f g Q := by
  obtain ⟨d, rfl⟩ : ∃ e, d = e + 1 := ⟨d - 1, by omega⟩
  refine i_meth0 rfl rfl (fun O J hO => ?_)
  refine ⟨show 0 ≤ (0 : Int) ∧ 0 ≤ (0 : Int) ∧ 0 ≤ (400 : Int) ∧ (0 : Int) + 400 ≤ 400 ∧ (0 : Int) + 400 ≤ 400 from by decide, ?_⟩
  refine ⟨show 0 ≤ (0 : Int) ∧ 0 ≤ (0 : Int) ∧ 0 ≤ (17 : Int) ∧ (0 : Int) + 17 ≤ 17 ∧ (0 : Int) + 17 ≤ 17 from by decide, ?_⟩
  refine ⟨show 0 ≤ (0 : Int) ∧ 0 ≤ (0 : Int) ∧ 0 ≤ (16 : Int) ∧ (0 : Int) + 16 ≤ 16 ∧ (0 : Int) + 16 ≤ 16 from by decide, ?_⟩
  have hk := k0 (wv (wv (wv (acpS (acpS (acpS f (f 35) 16 0 0 400) ((acp f 35 16 0 0 400) 36) 17 0 0 17) ((acp (acp f 35 16 0 0 400) 36 17 0 0 17) 37) 18 0 0 16) (fv 15 3) 0 (f (fv 34 3) 0)) (fv 15 4) 0 (f (fv 34 4) 0)) (fv 15 5) 0 (f (fv 34 5) 0)) (fun q h0 h1 => by
    show acpS _ _ 16 0 0 400 16 q = _
    rw [acpS_i, if_pos ⟨by omega, by omega⟩, Int.sub_zero, Int.zero_add]
    try rfl) (fun q h0 h1 => by
    show acpS _ _ 17 0 0 17 17 q = _
    rw [acpS_i, if_pos ⟨by omega, by omega⟩, Int.sub_zero, Int.zero_add]
    try rfl) (fun q h0 h1 => by
    show acpS _ _ 18 0 0 16 18 q = _
    rw [acpS_i, if_pos ⟨by omega, by omega⟩, Int.sub_zero, Int.zero_add]
    try rfl) ⟨rfl, rfl, rfl⟩
  rw [show mx [16, 17, 18, fv 15 3, fv 15 4, fv 15 5] f (wv (wv (wv (acpS (acpS (acpS f (f 35) 16 0 0 400) ((acp f 35 16 0 0 400) 36) 17 0 0 17) ((acp (acp f 35 16 0 0 400) 36 17 0 0 17) 37) 18 0 0 16) (fv 15 3) 0 (f (fv 34 3) 0)) (fv 15 4) 0 (f (fv 34 4) 0)) (fv 15 5) 0 (f (fv 34 5) 0)) = (wv (wv (wv (acp (acp (acp f 35 16 0 0 400) 36 17 0 0 17) 37 18 0 0 16) (fv 15 3) 0 (f (fv 34 3) 0)) (fv 15 4) 0 (f (fv 34 4) 0)) (fv 15 5) 0 (f (fv 34 5) 0)) from ((mx_wv rfl (mx_wv rfl (mx_wv rfl (mx_acp rfl (mx_acp rfl (mx_acp rfl mx_rf))))))).symm] at hk
  exact hk
set_option maxRecDepth 100000 in
set_option maxHeartbeats 4000000 in
theorem k_ltake_dr (hd : 1 ≤ d) (k0 : ∀ f1 : iF, (∀ q, 0 ≤ q → q < 400 → f1 16 q = (f 43 q)) → (∀ q, 0 ≤ q → q < 17 → f1 17 q = (f 44 q)) → (∀ q, 0 ≤ q → q < 16 → f1 18 q = (f 45 q)) → (f1 (fv 15 3) 0 = (f (fv 42 3) 0) ∧ f1 (fv 15 4) 0 = (f (fv 42 4) 0) ∧ f1 (fv 15 5) 0 = (f (fv 42 5) 0)) → Q none (mx [16, 17, 18, fv 15 3, fv 15 4, fv 15 5] f f1) g) : wq d 116 [iR 15, iR 42] f g Q := by
  obtain ⟨d, rfl⟩ : ∃ e, d = e + 1 := ⟨d - 1, by omega⟩
  refine i_meth0 rfl rfl (fun O J hO => ?_)
  refine ⟨show 0 ≤ (0 : Int) ∧ 0 ≤ (0 : Int) ∧ 0 ≤ (400 : Int) ∧ (0 : Int) + 400 ≤ 400 ∧ (0 : Int) + 400 ≤ 400 from by decide, ?_⟩
  refine ⟨show 0 ≤ (0 : Int) ∧ 0 ≤ (0 : Int) ∧ 0 ≤ (17 : Int) ∧ (0 : Int) + 17 ≤ 17 ∧ (0 : Int) + 17 ≤ 17 from by decide, ?_⟩
  refine ⟨show 0 ≤ (0 : Int) ∧ 0 ≤ (0 : Int) ∧ 0 ≤ (16 : Int) ∧ (0 : Int) + 16 ≤ 16 ∧ (0 : Int) + 16 ≤ 16 from by decide, ?_⟩
  have hk := k0 (wv (wv (wv (acpS (acpS (acpS f (f 43) 16 0 0 400) ((acp f 43 16 0 0 400) 44) 17 0 0 17) ((acp (acp f 43 16 0 0 400) 44 17 0 0 17) 45) 18 0 0 16) (fv 15 3) 0 (f (fv 42 3) 0)) (fv 15 4) 0 (f (fv 42 4) 0)) (fv 15 5) 0 (f (fv 42 5) 0)) (fun q h0 h1 => by
    show acpS _ _ 16 0 0 400 16 q = _
    rw [acpS_i, if_pos ⟨by omega, by omega⟩, Int.sub_zero, Int.zero_add]
    try rfl) (fun q h0 h1 => by
    show acpS _ _ 17 0 0 17 17 q = _
    rw [acpS_i, if_pos ⟨by omega, by omega⟩, Int.sub_zero, Int.zero_add]
    try rfl) (fun q h0 h1 => by
    show acpS _ _ 18 0 0 16 18 q = _
    rw [acpS_i, if_pos ⟨by omega, by omega⟩, Int.sub_zero, Int.zero_add]
    try rfl) ⟨rfl, rfl, rfl⟩
  rw [show mx [16, 17, 18, fv 15 3, fv 15 4, fv 15 5] f (wv (wv (wv (acpS (acpS (acpS f (f 43) 16 0 0 400) ((acp f 43 16 0 0 400) 44) 17 0 0 17) ((acp (acp f 43 16 0 0 400) 44 17 0 0 17) 45) 18 0 0 16) (fv 15 3) 0 (f (fv 42 3) 0)) (fv 15 4) 0 (f (fv 42 4) 0)) (fv 15 5) 0 (f (fv 42 5) 0)) = (wv (wv (wv (acp (acp (acp f 43 16 0 0 400) 44 17 0 0 17) 45 18 0 0 16) (fv 15 3) 0 (f (fv 42 3) 0)) (fv 15 4) 0 (f (fv 42 4) 0)) (fv 15 5) 0 (f (fv 42 5) 0)) from ((mx_wv rfl (mx_wv rfl (mx_wv rfl (mx_acp rfl (mx_acp rfl (mx_acp rfl mx_rf))))))).symm] at hk
  exact hk
set_option maxRecDepth 100000 in
set_option maxHeartbeats 4000000 in
theorem k_htake_kp (hd : 3 ≤ d) (hn : 0 ≤ (f (fv 10 1) 0) ∧ (f (fv 10 1) 0) ≤ 60) (k0 : ∀ f1 : iF, (f1 (fv 20 0) 0 = (f (fv 1 0) 0) ∧ f1 (fv 20 13) 0 = (f (fv 1 13) 0) ∧ f1 (fv 20 14) 0 = (f (fv 1 14) 0) ∧ f1 (fv 20 15) 0 = (f (fv 1 15) 0) ∧ f1 (fv 20 16) 0 = (f (fv 1 16) 0) ∧ f1 (fv 20 17) 0 = (f (fv 1 17) 0)) → (∀ q, 0 ≤ q → q < 8 → f1 21 q = (f 2 q)) → (∀ q, 0 ≤ q → q < 8 → f1 22 q = (f 3 q)) → (∀ q, 0 ≤ q → q < 8 → f1 23 q = (f 4 q)) → (∀ q, 0 ≤ q → q < 8 → f1 24 q = (f 5 q)) → (∀ q, 0 ≤ q → q < 8 → f1 25 q = (f 6 q)) → (∀ q, 0 ≤ q → q < 29 → f1 26 q = (f 7 q)) → (∀ q, 0 ≤ q → q < 29 → f1 27 q = (f 8 q)) → (∀ q, 0 ≤ q → q < 29 → f1 28 q = (f 9 q)) → (f1 (fv 29 1) 0 = (f (fv 10 1) 0)) → (∀ q, 0 ≤ q → q < (f (fv 10 1) 0) → f1 30 q = (f 11 q)) → (∀ q, 0 ≤ q → q < 240 → f1 32 q = (f 13 q)) → (∀ q, 0 ≤ q → q < 20 → f1 33 q = (f 14 q)) → (f1 (fv 31 2) 0 = (f (fv 12 2) 0)) → (∀ q, 0 ≤ q → q < 400 → f1 35 q = (f 16 q)) → (∀ q, 0 ≤ q → q < 17 → f1 36 q = (f 17 q)) → (∀ q, 0 ≤ q → q < 16 → f1 37 q = (f 18 q)) → (f1 (fv 34 3) 0 = (f (fv 15 3) 0) ∧ f1 (fv 34 4) 0 = (f (fv 15 4) 0) ∧ f1 (fv 34 5) 0 = (f (fv 15 5) 0)) → (∀ q, 0 ≤ q → q < 1000 → f1 38 q = (f 19 q)) → Q none (mx [21, 22, 23, 24, 25, 26, 27, 28, 30, fv 29 1, 32, 33, fv 31 2, 35, 36, 37, fv 34 3, fv 34 4, fv 34 5, 38, fv 20 0, fv 20 13, fv 20 14, fv 20 15, fv 20 16, fv 20 17] f f1) g) : wq d 109 [iR 20, iR 1] f g Q := by
  obtain ⟨d, rfl⟩ : ∃ e, d = e + 1 := ⟨d - 1, by omega⟩
  refine i_meth0 rfl rfl (fun O J hO => ?_)
  refine ⟨show 0 ≤ (0 : Int) ∧ 0 ≤ (0 : Int) ∧ 0 ≤ (8 : Int) ∧ (0 : Int) + 8 ≤ 8 ∧ (0 : Int) + 8 ≤ 8 from by decide, ?_⟩
  refine ⟨show 0 ≤ (0 : Int) ∧ 0 ≤ (0 : Int) ∧ 0 ≤ (8 : Int) ∧ (0 : Int) + 8 ≤ 8 ∧ (0 : Int) + 8 ≤ 8 from by decide, ?_⟩
  refine ⟨show 0 ≤ (0 : Int) ∧ 0 ≤ (0 : Int) ∧ 0 ≤ (8 : Int) ∧ (0 : Int) + 8 ≤ 8 ∧ (0 : Int) + 8 ≤ 8 from by decide, ?_⟩
  refine ⟨show 0 ≤ (0 : Int) ∧ 0 ≤ (0 : Int) ∧ 0 ≤ (8 : Int) ∧ (0 : Int) + 8 ≤ 8 ∧ (0 : Int) + 8 ≤ 8 from by decide, ?_⟩
  refine ⟨show 0 ≤ (0 : Int) ∧ 0 ≤ (0 : Int) ∧ 0 ≤ (8 : Int) ∧ (0 : Int) + 8 ≤ 8 ∧ (0 : Int) + 8 ≤ 8 from by decide, ?_⟩
  refine ⟨show 0 ≤ (0 : Int) ∧ 0 ≤ (0 : Int) ∧ 0 ≤ (29 : Int) ∧ (0 : Int) + 29 ≤ 29 ∧ (0 : Int) + 29 ≤ 29 from by decide, ?_⟩
  refine ⟨show 0 ≤ (0 : Int) ∧ 0 ≤ (0 : Int) ∧ 0 ≤ (29 : Int) ∧ (0 : Int) + 29 ≤ 29 ∧ (0 : Int) + 29 ≤ 29 from by decide, ?_⟩
  refine ⟨show 0 ≤ (0 : Int) ∧ 0 ≤ (0 : Int) ∧ 0 ≤ (29 : Int) ∧ (0 : Int) + 29 ≤ 29 ∧ (0 : Int) + 29 ≤ 29 from by decide, ?_⟩
  refine hO (k_rtake_kp (by omega) (show 0 ≤ (f (fv 10 1) 0) ∧ (f (fv 10 1) 0) ≤ 60 from hn) (fun f1_1 (hh_2 : f1_1 (fv 29 1) 0 = (f (fv 10 1) 0)) (hh_3 : ∀ q, 0 ≤ q → q < (f (fv 10 1) 0) → f1_1 30 q = (f 11 q)) => ?_))
  have hr0 := hh_2
  have hr1 := hh_3
  refine hO (k_wtake_kp (by omega) (fun f1_4 (hh_5 : ∀ q, 0 ≤ q → q < 240 → f1_4 32 q = (f 13 q)) (hh_6 : ∀ q, 0 ≤ q → q < 20 → f1_4 33 q = (f 14 q)) (hh_7 : f1_4 (fv 31 2) 0 = (f (fv 12 2) 0)) => ?_))
  have hw0 := hh_5
  have hw1 := hh_6
  have hw2 := hh_7
  refine hO (k_ltake_kp (by omega) (fun f1_8 (hh_9 : ∀ q, 0 ≤ q → q < 400 → f1_8 35 q = (f 16 q)) (hh_10 : ∀ q, 0 ≤ q → q < 17 → f1_8 36 q = (f 17 q)) (hh_11 : ∀ q, 0 ≤ q → q < 16 → f1_8 37 q = (f 18 q)) (hh_12 : f1_8 (fv 34 3) 0 = (f (fv 15 3) 0) ∧ f1_8 (fv 34 4) 0 = (f (fv 15 4) 0) ∧ f1_8 (fv 34 5) 0 = (f (fv 15 5) 0)) => ?_))
  have hl0 := hh_9
  have hl1 := hh_10
  have hl2 := hh_11
  have hl3 := hh_12
  refine ⟨show 0 ≤ (0 : Int) ∧ 0 ≤ (0 : Int) ∧ 0 ≤ (1000 : Int) ∧ (0 : Int) + 1000 ≤ 1000 ∧ (0 : Int) + 1000 ≤ 1000 from by decide, ?_⟩
  have hk := k0 (wv (wv (wv (wv (wv (acpS (mx [35, 36, 37, fv 34 3, fv 34 4, fv 34 5] (mx [32, 33, fv 31 2] (mx [30, fv 29 1] (acpS (acpS (acpS (acpS (acpS (acpS (acpS (acpS (wv f (fv 20 0) 0 (f (fv 1 0) 0)) ((wv f (fv 20 0) 0 (f (fv 1 0) 0)) 2) 21 0 0 8) ((acp (wv f (fv 20 0) 0 (f (fv 1 0) 0)) 2 21 0 0 8) 3) 22 0 0 8) ((acp (acp (wv f (fv 20 0) 0 (f (fv 1 0) 0)) 2 21 0 0 8) 3 22 0 0 8) 4) 23 0 0 8) ((acp (acp (acp (wv f (fv 20 0) 0 (f (fv 1 0) 0)) 2 21 0 0 8) 3 22 0 0 8) 4 23 0 0 8) 5) 24 0 0 8) ((acp (acp (acp (acp (wv f (fv 20 0) 0 (f (fv 1 0) 0)) 2 21 0 0 8) 3 22 0 0 8) 4 23 0 0 8) 5 24 0 0 8) 6) 25 0 0 8) ((acp (acp (acp (acp (acp (wv f (fv 20 0) 0 (f (fv 1 0) 0)) 2 21 0 0 8) 3 22 0 0 8) 4 23 0 0 8) 5 24 0 0 8) 6 25 0 0 8) 7) 26 0 0 29) ((acp (acp (acp (acp (acp (acp (wv f (fv 20 0) 0 (f (fv 1 0) 0)) 2 21 0 0 8) 3 22 0 0 8) 4 23 0 0 8) 5 24 0 0 8) 6 25 0 0 8) 7 26 0 0 29) 8) 27 0 0 29) ((acp (acp (acp (acp (acp (acp (acp (wv f (fv 20 0) 0 (f (fv 1 0) 0)) 2 21 0 0 8) 3 22 0 0 8) 4 23 0 0 8) 5 24 0 0 8) 6 25 0 0 8) 7 26 0 0 29) 8 27 0 0 29) 9) 28 0 0 29) f1_1) f1_4) f1_8) ((mx [35, 36, 37, fv 34 3, fv 34 4, fv 34 5] (mx [32, 33, fv 31 2] (mx [30, fv 29 1] (acp (acp (acp (acp (acp (acp (acp (acp (wv f (fv 20 0) 0 (f (fv 1 0) 0)) 2 21 0 0 8) 3 22 0 0 8) 4 23 0 0 8) 5 24 0 0 8) 6 25 0 0 8) 7 26 0 0 29) 8 27 0 0 29) 9 28 0 0 29) f1_1) f1_4) f1_8) 19) 38 0 0 1000) (fv 20 13) 0 (f (fv 1 13) 0)) (fv 20 14) 0 (f (fv 1 14) 0)) (fv 20 15) 0 (f (fv 1 15) 0)) (fv 20 16) 0 (f (fv 1 16) 0)) (fv 20 17) 0 (f (fv 1 17) 0)) ⟨rfl, rfl, rfl, rfl, rfl, rfl⟩ (fun q h0 h1 => by
    show acpS _ _ 21 0 0 8 21 q = _
    rw [acpS_i, if_pos ⟨by omega, by omega⟩, Int.sub_zero, Int.zero_add]
    try rfl) (fun q h0 h1 => by
    show acpS _ _ 22 0 0 8 22 q = _
    rw [acpS_i, if_pos ⟨by omega, by omega⟩, Int.sub_zero, Int.zero_add]
    try rfl) (fun q h0 h1 => by
    show acpS _ _ 23 0 0 8 23 q = _
    rw [acpS_i, if_pos ⟨by omega, by omega⟩, Int.sub_zero, Int.zero_add]
    try rfl) (fun q h0 h1 => by
    show acpS _ _ 24 0 0 8 24 q = _
    rw [acpS_i, if_pos ⟨by omega, by omega⟩, Int.sub_zero, Int.zero_add]
    try rfl) (fun q h0 h1 => by
    show acpS _ _ 25 0 0 8 25 q = _
    rw [acpS_i, if_pos ⟨by omega, by omega⟩, Int.sub_zero, Int.zero_add]
    try rfl) (fun q h0 h1 => by
    show acpS _ _ 26 0 0 29 26 q = _
    rw [acpS_i, if_pos ⟨by omega, by omega⟩, Int.sub_zero, Int.zero_add]
    try rfl) (fun q h0 h1 => by
    show acpS _ _ 27 0 0 29 27 q = _
    rw [acpS_i, if_pos ⟨by omega, by omega⟩, Int.sub_zero, Int.zero_add]
    try rfl) (fun q h0 h1 => by
    show acpS _ _ 28 0 0 29 28 q = _
    rw [acpS_i, if_pos ⟨by omega, by omega⟩, Int.sub_zero, Int.zero_add]
    try rfl) hr0 hr1 hw0 hw1 hw2 hl0 hl1 hl2 hl3 (fun q h0 h1 => by
    show acpS _ _ 38 0 0 1000 38 q = _
    rw [acpS_i, if_pos ⟨by omega, by omega⟩, Int.sub_zero, Int.zero_add]
    try rfl)
  rw [show mx [21, 22, 23, 24, 25, 26, 27, 28, 30, fv 29 1, 32, 33, fv 31 2, 35, 36, 37, fv 34 3, fv 34 4, fv 34 5, 38, fv 20 0, fv 20 13, fv 20 14, fv 20 15, fv 20 16, fv 20 17] f (wv (wv (wv (wv (wv (acpS (mx [35, 36, 37, fv 34 3, fv 34 4, fv 34 5] (mx [32, 33, fv 31 2] (mx [30, fv 29 1] (acpS (acpS (acpS (acpS (acpS (acpS (acpS (acpS (wv f (fv 20 0) 0 (f (fv 1 0) 0)) ((wv f (fv 20 0) 0 (f (fv 1 0) 0)) 2) 21 0 0 8) ((acp (wv f (fv 20 0) 0 (f (fv 1 0) 0)) 2 21 0 0 8) 3) 22 0 0 8) ((acp (acp (wv f (fv 20 0) 0 (f (fv 1 0) 0)) 2 21 0 0 8) 3 22 0 0 8) 4) 23 0 0 8) ((acp (acp (acp (wv f (fv 20 0) 0 (f (fv 1 0) 0)) 2 21 0 0 8) 3 22 0 0 8) 4 23 0 0 8) 5) 24 0 0 8) ((acp (acp (acp (acp (wv f (fv 20 0) 0 (f (fv 1 0) 0)) 2 21 0 0 8) 3 22 0 0 8) 4 23 0 0 8) 5 24 0 0 8) 6) 25 0 0 8) ((acp (acp (acp (acp (acp (wv f (fv 20 0) 0 (f (fv 1 0) 0)) 2 21 0 0 8) 3 22 0 0 8) 4 23 0 0 8) 5 24 0 0 8) 6 25 0 0 8) 7) 26 0 0 29) ((acp (acp (acp (acp (acp (acp (wv f (fv 20 0) 0 (f (fv 1 0) 0)) 2 21 0 0 8) 3 22 0 0 8) 4 23 0 0 8) 5 24 0 0 8) 6 25 0 0 8) 7 26 0 0 29) 8) 27 0 0 29) ((acp (acp (acp (acp (acp (acp (acp (wv f (fv 20 0) 0 (f (fv 1 0) 0)) 2 21 0 0 8) 3 22 0 0 8) 4 23 0 0 8) 5 24 0 0 8) 6 25 0 0 8) 7 26 0 0 29) 8 27 0 0 29) 9) 28 0 0 29) f1_1) f1_4) f1_8) ((mx [35, 36, 37, fv 34 3, fv 34 4, fv 34 5] (mx [32, 33, fv 31 2] (mx [30, fv 29 1] (acp (acp (acp (acp (acp (acp (acp (acp (wv f (fv 20 0) 0 (f (fv 1 0) 0)) 2 21 0 0 8) 3 22 0 0 8) 4 23 0 0 8) 5 24 0 0 8) 6 25 0 0 8) 7 26 0 0 29) 8 27 0 0 29) 9 28 0 0 29) f1_1) f1_4) f1_8) 19) 38 0 0 1000) (fv 20 13) 0 (f (fv 1 13) 0)) (fv 20 14) 0 (f (fv 1 14) 0)) (fv 20 15) 0 (f (fv 1 15) 0)) (fv 20 16) 0 (f (fv 1 16) 0)) (fv 20 17) 0 (f (fv 1 17) 0)) = (wv (wv (wv (wv (wv (acp (mx [35, 36, 37, fv 34 3, fv 34 4, fv 34 5] (mx [32, 33, fv 31 2] (mx [30, fv 29 1] (acp (acp (acp (acp (acp (acp (acp (acp (wv f (fv 20 0) 0 (f (fv 1 0) 0)) 2 21 0 0 8) 3 22 0 0 8) 4 23 0 0 8) 5 24 0 0 8) 6 25 0 0 8) 7 26 0 0 29) 8 27 0 0 29) 9 28 0 0 29) f1_1) f1_4) f1_8) 19 38 0 0 1000) (fv 20 13) 0 (f (fv 1 13) 0)) (fv 20 14) 0 (f (fv 1 14) 0)) (fv 20 15) 0 (f (fv 1 15) 0)) (fv 20 16) 0 (f (fv 1 16) 0)) (fv 20 17) 0 (f (fv 1 17) 0)) from ((mx_wv rfl (mx_wv rfl (mx_wv rfl (mx_wv rfl (mx_wv rfl (mx_acp rfl (mx_mx rfl (mx_mx rfl (mx_mx rfl (mx_acp rfl (mx_acp rfl (mx_acp rfl (mx_acp rfl (mx_acp rfl (mx_acp rfl (mx_acp rfl (mx_acp rfl (mx_wv rfl mx_rf))))))))))))))))))).symm] at hk
  exact hk
set_option maxRecDepth 100000 in
set_option maxHeartbeats 4000000 in
theorem k_htake_bk (hd : 3 ≤ d) (hn : 0 ≤ (f (fv 29 1) 0) ∧ (f (fv 29 1) 0) ≤ 60) (k0 : ∀ f1 : iF, (f1 (fv 1 0) 0 = (f (fv 20 0) 0) ∧ f1 (fv 1 13) 0 = (f (fv 20 13) 0) ∧ f1 (fv 1 14) 0 = (f (fv 20 14) 0) ∧ f1 (fv 1 15) 0 = (f (fv 20 15) 0) ∧ f1 (fv 1 16) 0 = (f (fv 20 16) 0) ∧ f1 (fv 1 17) 0 = (f (fv 20 17) 0)) → (∀ q, 0 ≤ q → q < 8 → f1 2 q = (f 21 q)) → (∀ q, 0 ≤ q → q < 8 → f1 3 q = (f 22 q)) → (∀ q, 0 ≤ q → q < 8 → f1 4 q = (f 23 q)) → (∀ q, 0 ≤ q → q < 8 → f1 5 q = (f 24 q)) → (∀ q, 0 ≤ q → q < 8 → f1 6 q = (f 25 q)) → (∀ q, 0 ≤ q → q < 29 → f1 7 q = (f 26 q)) → (∀ q, 0 ≤ q → q < 29 → f1 8 q = (f 27 q)) → (∀ q, 0 ≤ q → q < 29 → f1 9 q = (f 28 q)) → (f1 (fv 10 1) 0 = (f (fv 29 1) 0)) → (∀ q, 0 ≤ q → q < (f (fv 29 1) 0) → f1 11 q = (f 30 q)) → (∀ q, 0 ≤ q → q < 240 → f1 13 q = (f 32 q)) → (∀ q, 0 ≤ q → q < 20 → f1 14 q = (f 33 q)) → (f1 (fv 12 2) 0 = (f (fv 31 2) 0)) → (∀ q, 0 ≤ q → q < 400 → f1 16 q = (f 35 q)) → (∀ q, 0 ≤ q → q < 17 → f1 17 q = (f 36 q)) → (∀ q, 0 ≤ q → q < 16 → f1 18 q = (f 37 q)) → (f1 (fv 15 3) 0 = (f (fv 34 3) 0) ∧ f1 (fv 15 4) 0 = (f (fv 34 4) 0) ∧ f1 (fv 15 5) 0 = (f (fv 34 5) 0)) → (∀ q, 0 ≤ q → q < 1000 → f1 19 q = (f 38 q)) → Q none (mx [2, 3, 4, 5, 6, 7, 8, 9, 11, fv 10 1, 13, 14, fv 12 2, 16, 17, 18, fv 15 3, fv 15 4, fv 15 5, 19, fv 1 0, fv 1 13, fv 1 14, fv 1 15, fv 1 16, fv 1 17] f f1) g) : wq d 109 [iR 1, iR 20] f g Q := by
  obtain ⟨d, rfl⟩ : ∃ e, d = e + 1 := ⟨d - 1, by omega⟩
  refine i_meth0 rfl rfl (fun O J hO => ?_)
  refine ⟨show 0 ≤ (0 : Int) ∧ 0 ≤ (0 : Int) ∧ 0 ≤ (8 : Int) ∧ (0 : Int) + 8 ≤ 8 ∧ (0 : Int) + 8 ≤ 8 from by decide, ?_⟩
  refine ⟨show 0 ≤ (0 : Int) ∧ 0 ≤ (0 : Int) ∧ 0 ≤ (8 : Int) ∧ (0 : Int) + 8 ≤ 8 ∧ (0 : Int) + 8 ≤ 8 from by decide, ?_⟩
  refine ⟨show 0 ≤ (0 : Int) ∧ 0 ≤ (0 : Int) ∧ 0 ≤ (8 : Int) ∧ (0 : Int) + 8 ≤ 8 ∧ (0 : Int) + 8 ≤ 8 from by decide, ?_⟩
  refine ⟨show 0 ≤ (0 : Int) ∧ 0 ≤ (0 : Int) ∧ 0 ≤ (8 : Int) ∧ (0 : Int) + 8 ≤ 8 ∧ (0 : Int) + 8 ≤ 8 from by decide, ?_⟩
  refine ⟨show 0 ≤ (0 : Int) ∧ 0 ≤ (0 : Int) ∧ 0 ≤ (8 : Int) ∧ (0 : Int) + 8 ≤ 8 ∧ (0 : Int) + 8 ≤ 8 from by decide, ?_⟩
  refine ⟨show 0 ≤ (0 : Int) ∧ 0 ≤ (0 : Int) ∧ 0 ≤ (29 : Int) ∧ (0 : Int) + 29 ≤ 29 ∧ (0 : Int) + 29 ≤ 29 from by decide, ?_⟩
  refine ⟨show 0 ≤ (0 : Int) ∧ 0 ≤ (0 : Int) ∧ 0 ≤ (29 : Int) ∧ (0 : Int) + 29 ≤ 29 ∧ (0 : Int) + 29 ≤ 29 from by decide, ?_⟩
  refine ⟨show 0 ≤ (0 : Int) ∧ 0 ≤ (0 : Int) ∧ 0 ≤ (29 : Int) ∧ (0 : Int) + 29 ≤ 29 ∧ (0 : Int) + 29 ≤ 29 from by decide, ?_⟩
  refine hO (k_rtake_bk (by omega) (show 0 ≤ (f (fv 29 1) 0) ∧ (f (fv 29 1) 0) ≤ 60 from hn) (fun f1_1 (hh_2 : f1_1 (fv 10 1) 0 = (f (fv 29 1) 0)) (hh_3 : ∀ q, 0 ≤ q → q < (f (fv 29 1) 0) → f1_1 11 q = (f 30 q)) => ?_))
  have hr0 := hh_2
  have hr1 := hh_3
  refine hO (k_wtake_bk (by omega) (fun f1_4 (hh_5 : ∀ q, 0 ≤ q → q < 240 → f1_4 13 q = (f 32 q)) (hh_6 : ∀ q, 0 ≤ q → q < 20 → f1_4 14 q = (f 33 q)) (hh_7 : f1_4 (fv 12 2) 0 = (f (fv 31 2) 0)) => ?_))
  have hw0 := hh_5
  have hw1 := hh_6
  have hw2 := hh_7
  refine hO (k_ltake_bk (by omega) (fun f1_8 (hh_9 : ∀ q, 0 ≤ q → q < 400 → f1_8 16 q = (f 35 q)) (hh_10 : ∀ q, 0 ≤ q → q < 17 → f1_8 17 q = (f 36 q)) (hh_11 : ∀ q, 0 ≤ q → q < 16 → f1_8 18 q = (f 37 q)) (hh_12 : f1_8 (fv 15 3) 0 = (f (fv 34 3) 0) ∧ f1_8 (fv 15 4) 0 = (f (fv 34 4) 0) ∧ f1_8 (fv 15 5) 0 = (f (fv 34 5) 0)) => ?_))
  have hl0 := hh_9
  have hl1 := hh_10
  have hl2 := hh_11
  have hl3 := hh_12
  refine ⟨show 0 ≤ (0 : Int) ∧ 0 ≤ (0 : Int) ∧ 0 ≤ (1000 : Int) ∧ (0 : Int) + 1000 ≤ 1000 ∧ (0 : Int) + 1000 ≤ 1000 from by decide, ?_⟩
  have hk := k0 (wv (wv (wv (wv (wv (acpS (mx [16, 17, 18, fv 15 3, fv 15 4, fv 15 5] (mx [13, 14, fv 12 2] (mx [11, fv 10 1] (acpS (acpS (acpS (acpS (acpS (acpS (acpS (acpS (wv f (fv 1 0) 0 (f (fv 20 0) 0)) ((wv f (fv 1 0) 0 (f (fv 20 0) 0)) 21) 2 0 0 8) ((acp (wv f (fv 1 0) 0 (f (fv 20 0) 0)) 21 2 0 0 8) 22) 3 0 0 8) ((acp (acp (wv f (fv 1 0) 0 (f (fv 20 0) 0)) 21 2 0 0 8) 22 3 0 0 8) 23) 4 0 0 8) ((acp (acp (acp (wv f (fv 1 0) 0 (f (fv 20 0) 0)) 21 2 0 0 8) 22 3 0 0 8) 23 4 0 0 8) 24) 5 0 0 8) ((acp (acp (acp (acp (wv f (fv 1 0) 0 (f (fv 20 0) 0)) 21 2 0 0 8) 22 3 0 0 8) 23 4 0 0 8) 24 5 0 0 8) 25) 6 0 0 8) ((acp (acp (acp (acp (acp (wv f (fv 1 0) 0 (f (fv 20 0) 0)) 21 2 0 0 8) 22 3 0 0 8) 23 4 0 0 8) 24 5 0 0 8) 25 6 0 0 8) 26) 7 0 0 29) ((acp (acp (acp (acp (acp (acp (wv f (fv 1 0) 0 (f (fv 20 0) 0)) 21 2 0 0 8) 22 3 0 0 8) 23 4 0 0 8) 24 5 0 0 8) 25 6 0 0 8) 26 7 0 0 29) 27) 8 0 0 29) ((acp (acp (acp (acp (acp (acp (acp (wv f (fv 1 0) 0 (f (fv 20 0) 0)) 21 2 0 0 8) 22 3 0 0 8) 23 4 0 0 8) 24 5 0 0 8) 25 6 0 0 8) 26 7 0 0 29) 27 8 0 0 29) 28) 9 0 0 29) f1_1) f1_4) f1_8) ((mx [16, 17, 18, fv 15 3, fv 15 4, fv 15 5] (mx [13, 14, fv 12 2] (mx [11, fv 10 1] (acp (acp (acp (acp (acp (acp (acp (acp (wv f (fv 1 0) 0 (f (fv 20 0) 0)) 21 2 0 0 8) 22 3 0 0 8) 23 4 0 0 8) 24 5 0 0 8) 25 6 0 0 8) 26 7 0 0 29) 27 8 0 0 29) 28 9 0 0 29) f1_1) f1_4) f1_8) 38) 19 0 0 1000) (fv 1 13) 0 (f (fv 20 13) 0)) (fv 1 14) 0 (f (fv 20 14) 0)) (fv 1 15) 0 (f (fv 20 15) 0)) (fv 1 16) 0 (f (fv 20 16) 0)) (fv 1 17) 0 (f (fv 20 17) 0)) ⟨rfl, rfl, rfl, rfl, rfl, rfl⟩ (fun q h0 h1 => by
    show acpS _ _ 2 0 0 8 2 q = _
    rw [acpS_i, if_pos ⟨by omega, by omega⟩, Int.sub_zero, Int.zero_add]
    try rfl) (fun q h0 h1 => by
    show acpS _ _ 3 0 0 8 3 q = _
    rw [acpS_i, if_pos ⟨by omega, by omega⟩, Int.sub_zero, Int.zero_add]
    try rfl) (fun q h0 h1 => by
    show acpS _ _ 4 0 0 8 4 q = _
    rw [acpS_i, if_pos ⟨by omega, by omega⟩, Int.sub_zero, Int.zero_add]
    try rfl) (fun q h0 h1 => by
    show acpS _ _ 5 0 0 8 5 q = _
    rw [acpS_i, if_pos ⟨by omega, by omega⟩, Int.sub_zero, Int.zero_add]
    try rfl) (fun q h0 h1 => by
    show acpS _ _ 6 0 0 8 6 q = _
    rw [acpS_i, if_pos ⟨by omega, by omega⟩, Int.sub_zero, Int.zero_add]
    try rfl) (fun q h0 h1 => by
    show acpS _ _ 7 0 0 29 7 q = _
    rw [acpS_i, if_pos ⟨by omega, by omega⟩, Int.sub_zero, Int.zero_add]
    try rfl) (fun q h0 h1 => by
    show acpS _ _ 8 0 0 29 8 q = _
    rw [acpS_i, if_pos ⟨by omega, by omega⟩, Int.sub_zero, Int.zero_add]
    try rfl) (fun q h0 h1 => by
    show acpS _ _ 9 0 0 29 9 q = _
    rw [acpS_i, if_pos ⟨by omega, by omega⟩, Int.sub_zero, Int.zero_add]
    try rfl) hr0 hr1 hw0 hw1 hw2 hl0 hl1 hl2 hl3 (fun q h0 h1 => by
    show acpS _ _ 19 0 0 1000 19 q = _
    rw [acpS_i, if_pos ⟨by omega, by omega⟩, Int.sub_zero, Int.zero_add]
    try rfl)
  rw [show mx [2, 3, 4, 5, 6, 7, 8, 9, 11, fv 10 1, 13, 14, fv 12 2, 16, 17, 18, fv 15 3, fv 15 4, fv 15 5, 19, fv 1 0, fv 1 13, fv 1 14, fv 1 15, fv 1 16, fv 1 17] f (wv (wv (wv (wv (wv (acpS (mx [16, 17, 18, fv 15 3, fv 15 4, fv 15 5] (mx [13, 14, fv 12 2] (mx [11, fv 10 1] (acpS (acpS (acpS (acpS (acpS (acpS (acpS (acpS (wv f (fv 1 0) 0 (f (fv 20 0) 0)) ((wv f (fv 1 0) 0 (f (fv 20 0) 0)) 21) 2 0 0 8) ((acp (wv f (fv 1 0) 0 (f (fv 20 0) 0)) 21 2 0 0 8) 22) 3 0 0 8) ((acp (acp (wv f (fv 1 0) 0 (f (fv 20 0) 0)) 21 2 0 0 8) 22 3 0 0 8) 23) 4 0 0 8) ((acp (acp (acp (wv f (fv 1 0) 0 (f (fv 20 0) 0)) 21 2 0 0 8) 22 3 0 0 8) 23 4 0 0 8) 24) 5 0 0 8) ((acp (acp (acp (acp (wv f (fv 1 0) 0 (f (fv 20 0) 0)) 21 2 0 0 8) 22 3 0 0 8) 23 4 0 0 8) 24 5 0 0 8) 25) 6 0 0 8) ((acp (acp (acp (acp (acp (wv f (fv 1 0) 0 (f (fv 20 0) 0)) 21 2 0 0 8) 22 3 0 0 8) 23 4 0 0 8) 24 5 0 0 8) 25 6 0 0 8) 26) 7 0 0 29) ((acp (acp (acp (acp (acp (acp (wv f (fv 1 0) 0 (f (fv 20 0) 0)) 21 2 0 0 8) 22 3 0 0 8) 23 4 0 0 8) 24 5 0 0 8) 25 6 0 0 8) 26 7 0 0 29) 27) 8 0 0 29) ((acp (acp (acp (acp (acp (acp (acp (wv f (fv 1 0) 0 (f (fv 20 0) 0)) 21 2 0 0 8) 22 3 0 0 8) 23 4 0 0 8) 24 5 0 0 8) 25 6 0 0 8) 26 7 0 0 29) 27 8 0 0 29) 28) 9 0 0 29) f1_1) f1_4) f1_8) ((mx [16, 17, 18, fv 15 3, fv 15 4, fv 15 5] (mx [13, 14, fv 12 2] (mx [11, fv 10 1] (acp (acp (acp (acp (acp (acp (acp (acp (wv f (fv 1 0) 0 (f (fv 20 0) 0)) 21 2 0 0 8) 22 3 0 0 8) 23 4 0 0 8) 24 5 0 0 8) 25 6 0 0 8) 26 7 0 0 29) 27 8 0 0 29) 28 9 0 0 29) f1_1) f1_4) f1_8) 38) 19 0 0 1000) (fv 1 13) 0 (f (fv 20 13) 0)) (fv 1 14) 0 (f (fv 20 14) 0)) (fv 1 15) 0 (f (fv 20 15) 0)) (fv 1 16) 0 (f (fv 20 16) 0)) (fv 1 17) 0 (f (fv 20 17) 0)) = (wv (wv (wv (wv (wv (acp (mx [16, 17, 18, fv 15 3, fv 15 4, fv 15 5] (mx [13, 14, fv 12 2] (mx [11, fv 10 1] (acp (acp (acp (acp (acp (acp (acp (acp (wv f (fv 1 0) 0 (f (fv 20 0) 0)) 21 2 0 0 8) 22 3 0 0 8) 23 4 0 0 8) 24 5 0 0 8) 25 6 0 0 8) 26 7 0 0 29) 27 8 0 0 29) 28 9 0 0 29) f1_1) f1_4) f1_8) 38 19 0 0 1000) (fv 1 13) 0 (f (fv 20 13) 0)) (fv 1 14) 0 (f (fv 20 14) 0)) (fv 1 15) 0 (f (fv 20 15) 0)) (fv 1 16) 0 (f (fv 20 16) 0)) (fv 1 17) 0 (f (fv 20 17) 0)) from ((mx_wv rfl (mx_wv rfl (mx_wv rfl (mx_wv rfl (mx_wv rfl (mx_acp rfl (mx_mx rfl (mx_mx rfl (mx_mx rfl (mx_acp rfl (mx_acp rfl (mx_acp rfl (mx_acp rfl (mx_acp rfl (mx_acp rfl (mx_acp rfl (mx_acp rfl (mx_wv rfl mx_rf))))))))))))))))))).symm] at hk
  exact hk
set_option maxRecDepth 100000 in
set_option maxHeartbeats 4000000 in
theorem k_image {tk : Int} (hd : 4 ≤ d) (hn : 0 ≤ (f (fv 10 1) 0) ∧ (f (fv 10 1) 0) ≤ 60) (hk : ¬ (f (fv 0 2) 0) = 0 → 0 ≤ (f (fv 29 1) 0) ∧ (f (fv 29 1) 0) ≤ 60) (k0 : (tk = 0 ∧ (f (fv 0 2) 0) = 0) → Q (some (iI 0)) f g) (k1 : ∀ f1 : iF, (¬ tk = 0) → (f1 (fv 0 2) 0 = 1) → (f1 (fv 20 0) 0 = (f (fv 1 0) 0) ∧ f1 (fv 20 13) 0 = (f (fv 1 13) 0) ∧ f1 (fv 20 14) 0 = (f (fv 1 14) 0) ∧ f1 (fv 20 15) 0 = (f (fv 1 15) 0) ∧ f1 (fv 20 16) 0 = (f (fv 1 16) 0) ∧ f1 (fv 20 17) 0 = (f (fv 1 17) 0)) → (∀ q, 0 ≤ q → q < 8 → f1 21 q = (f 2 q)) → (∀ q, 0 ≤ q → q < 8 → f1 22 q = (f 3 q)) → (∀ q, 0 ≤ q → q < 8 → f1 23 q = (f 4 q)) → (∀ q, 0 ≤ q → q < 8 → f1 24 q = (f 5 q)) → (∀ q, 0 ≤ q → q < 8 → f1 25 q = (f 6 q)) → (∀ q, 0 ≤ q → q < 29 → f1 26 q = (f 7 q)) → (∀ q, 0 ≤ q → q < 29 → f1 27 q = (f 8 q)) → (∀ q, 0 ≤ q → q < 29 → f1 28 q = (f 9 q)) → (f1 (fv 29 1) 0 = (f (fv 10 1) 0)) → (∀ q, 0 ≤ q → q < (f (fv 10 1) 0) → f1 30 q = (f 11 q)) → (∀ q, 0 ≤ q → q < 240 → f1 32 q = (f 13 q)) → (∀ q, 0 ≤ q → q < 20 → f1 33 q = (f 14 q)) → (f1 (fv 31 2) 0 = (f (fv 12 2) 0)) → (∀ q, 0 ≤ q → q < 400 → f1 35 q = (f 16 q)) → (∀ q, 0 ≤ q → q < 17 → f1 36 q = (f 17 q)) → (∀ q, 0 ≤ q → q < 16 → f1 37 q = (f 18 q)) → (f1 (fv 34 3) 0 = (f (fv 15 3) 0) ∧ f1 (fv 34 4) 0 = (f (fv 15 4) 0) ∧ f1 (fv 34 5) 0 = (f (fv 15 5) 0)) → (∀ q, 0 ≤ q → q < 1000 → f1 38 q = (f 19 q)) → Q (some (iI 1)) (mx [21, 22, 23, 24, 25, 26, 27, 28, 30, fv 29 1, 32, 33, fv 31 2, 35, 36, 37, fv 34 3, fv 34 4, fv 34 5, 38, fv 20 0, fv 20 13, fv 20 14, fv 20 15, fv 20 16, fv 20 17, fv 0 2] f f1) g) (k2 : ∀ f1 : iF, ∀ g1 : iG, (tk = 0 ∧ ¬ (f (fv 0 2) 0) = 0) → (f1 (fv 48 5) 0 = 0 ∧ f1 (fv 62 0) 0 = 0 ∧ f1 (fv 72 0) 0 = (-1) ∧ f1 (fv 76 0) 0 = 0) → (∀ w, mOK w g1) → (f1 (fv 1 0) 0 = (f (fv 20 0) 0) ∧ f1 (fv 1 13) 0 = (f (fv 20 13) 0) ∧ f1 (fv 1 14) 0 = (f (fv 20 14) 0) ∧ f1 (fv 1 15) 0 = (f (fv 20 15) 0) ∧ f1 (fv 1 16) 0 = (f (fv 20 16) 0) ∧ f1 (fv 1 17) 0 = (f (fv 20 17) 0)) → (∀ q, 0 ≤ q → q < 8 → f1 2 q = (f 21 q)) → (∀ q, 0 ≤ q → q < 8 → f1 3 q = (f 22 q)) → (∀ q, 0 ≤ q → q < 8 → f1 4 q = (f 23 q)) → (∀ q, 0 ≤ q → q < 8 → f1 5 q = (f 24 q)) → (∀ q, 0 ≤ q → q < 8 → f1 6 q = (f 25 q)) → (∀ q, 0 ≤ q → q < 29 → f1 7 q = (f 26 q)) → (∀ q, 0 ≤ q → q < 29 → f1 8 q = (f 27 q)) → (∀ q, 0 ≤ q → q < 29 → f1 9 q = (f 28 q)) → (f1 (fv 10 1) 0 = (f (fv 29 1) 0)) → (∀ q, 0 ≤ q → q < (f (fv 29 1) 0) → f1 11 q = (f 30 q)) → (∀ q, 0 ≤ q → q < 240 → f1 13 q = (f 32 q)) → (∀ q, 0 ≤ q → q < 20 → f1 14 q = (f 33 q)) → (f1 (fv 12 2) 0 = (f (fv 31 2) 0)) → (∀ q, 0 ≤ q → q < 400 → f1 16 q = (f 35 q)) → (∀ q, 0 ≤ q → q < 17 → f1 17 q = (f 36 q)) → (∀ q, 0 ≤ q → q < 16 → f1 18 q = (f 37 q)) → (f1 (fv 15 3) 0 = (f (fv 34 3) 0) ∧ f1 (fv 15 4) 0 = (f (fv 34 4) 0) ∧ f1 (fv 15 5) 0 = (f (fv 34 5) 0)) → (∀ q, 0 ≤ q → q < 1000 → f1 19 q = (f 38 q)) → Q (some (iI 1)) (mx [2, 3, 4, 5, 6, 7, 8, 9, 11, fv 10 1, 13, 14, fv 12 2, 16, 17, 18, fv 15 3, fv 15 4, fv 15 5, 19, fv 1 0, fv 1 13, fv 1 14, fv 1 15, fv 1 16, fv 1 17, fv 48 5, fv 62 0, fv 72 0, fv 76 0] f f1) g1) : wq d 211 [iR 0, iI tk] f g Q := by
  obtain ⟨d, rfl⟩ : ∃ e, d = e + 1 := ⟨d - 1, by omega⟩
  refine i_meth0 rfl rfl (fun O J hO => ?_)
  refine ⟨fun (hh_1 : tk = 0) => ?_, fun (hh_1 : ¬ tk = 0) => ?_⟩
  · refine ⟨fun (hh_2 : f (fv 0 2) 0 = 0) => ?_, fun (hh_2 : ¬ f (fv 0 2) 0 = 0) => ?_⟩
    · refine ⟨show (0 : Int) = 0 ∨ 0 = 1 from by decide, ?_⟩
      exact k0 (by exact ⟨by assumption, by assumption⟩)
    · refine hO (k_htake_bk (by omega) (show 0 ≤ (f (fv 29 1) 0) ∧ (f (fv 29 1) 0) ≤ 60 from hk (by assumption)) (fun f1_3 (hh_4 : f1_3 (fv 1 0) 0 = (f (fv 20 0) 0) ∧ f1_3 (fv 1 13) 0 = (f (fv 20 13) 0) ∧ f1_3 (fv 1 14) 0 = (f (fv 20 14) 0) ∧ f1_3 (fv 1 15) 0 = (f (fv 20 15) 0) ∧ f1_3 (fv 1 16) 0 = (f (fv 20 16) 0) ∧ f1_3 (fv 1 17) 0 = (f (fv 20 17) 0)) (hh_5 : ∀ q, 0 ≤ q → q < 8 → f1_3 2 q = (f 21 q)) (hh_6 : ∀ q, 0 ≤ q → q < 8 → f1_3 3 q = (f 22 q)) (hh_7 : ∀ q, 0 ≤ q → q < 8 → f1_3 4 q = (f 23 q)) (hh_8 : ∀ q, 0 ≤ q → q < 8 → f1_3 5 q = (f 24 q)) (hh_9 : ∀ q, 0 ≤ q → q < 8 → f1_3 6 q = (f 25 q)) (hh_10 : ∀ q, 0 ≤ q → q < 29 → f1_3 7 q = (f 26 q)) (hh_11 : ∀ q, 0 ≤ q → q < 29 → f1_3 8 q = (f 27 q)) (hh_12 : ∀ q, 0 ≤ q → q < 29 → f1_3 9 q = (f 28 q)) (hh_13 : f1_3 (fv 10 1) 0 = (f (fv 29 1) 0)) (hh_14 : ∀ q, 0 ≤ q → q < (f (fv 29 1) 0) → f1_3 11 q = (f 30 q)) (hh_15 : ∀ q, 0 ≤ q → q < 240 → f1_3 13 q = (f 32 q)) (hh_16 : ∀ q, 0 ≤ q → q < 20 → f1_3 14 q = (f 33 q)) (hh_17 : f1_3 (fv 12 2) 0 = (f (fv 31 2) 0)) (hh_18 : ∀ q, 0 ≤ q → q < 400 → f1_3 16 q = (f 35 q)) (hh_19 : ∀ q, 0 ≤ q → q < 17 → f1_3 17 q = (f 36 q)) (hh_20 : ∀ q, 0 ≤ q → q < 16 → f1_3 18 q = (f 37 q)) (hh_21 : f1_3 (fv 15 3) 0 = (f (fv 34 3) 0) ∧ f1_3 (fv 15 4) 0 = (f (fv 34 4) 0) ∧ f1_3 (fv 15 5) 0 = (f (fv 34 5) 0)) (hh_22 : ∀ q, 0 ≤ q → q < 1000 → f1_3 19 q = (f 38 q)) => ?_))
      refine hO (k_lawChanged (by omega) (fun g1_23 (hh_24 : ∀ w, mOK w g1_23) => ?_))
      refine ⟨show (1 : Int) = 0 ∨ 1 = 1 from by decide, ?_⟩
      have hk := k2 (wv (wv (wv (wv (mx [2, 3, 4, 5, 6, 7, 8, 9, 11, fv 10 1, 13, 14, fv 12 2, 16, 17, 18, fv 15 3, fv 15 4, fv 15 5, 19, fv 1 0, fv 1 13, fv 1 14, fv 1 15, fv 1 16, fv 1 17] f f1_3) (fv 48 5) 0 0) (fv 62 0) 0 0) (fv 72 0) 0 (-1)) (fv 76 0) 0 0) g1_23 ⟨by assumption, by assumption⟩ ⟨rfl, rfl, rfl, rfl⟩ hh_24 hh_4 hh_5 hh_6 hh_7 hh_8 hh_9 hh_10 hh_11 hh_12 hh_13 hh_14 hh_15 hh_16 hh_17 hh_18 hh_19 hh_20 hh_21 hh_22
      rw [show mx [2, 3, 4, 5, 6, 7, 8, 9, 11, fv 10 1, 13, 14, fv 12 2, 16, 17, 18, fv 15 3, fv 15 4, fv 15 5, 19, fv 1 0, fv 1 13, fv 1 14, fv 1 15, fv 1 16, fv 1 17, fv 48 5, fv 62 0, fv 72 0, fv 76 0] f (wv (wv (wv (wv (mx [2, 3, 4, 5, 6, 7, 8, 9, 11, fv 10 1, 13, 14, fv 12 2, 16, 17, 18, fv 15 3, fv 15 4, fv 15 5, 19, fv 1 0, fv 1 13, fv 1 14, fv 1 15, fv 1 16, fv 1 17] f f1_3) (fv 48 5) 0 0) (fv 62 0) 0 0) (fv 72 0) 0 (-1)) (fv 76 0) 0 0) = (wv (wv (wv (wv (mx [2, 3, 4, 5, 6, 7, 8, 9, 11, fv 10 1, 13, 14, fv 12 2, 16, 17, 18, fv 15 3, fv 15 4, fv 15 5, 19, fv 1 0, fv 1 13, fv 1 14, fv 1 15, fv 1 16, fv 1 17] f f1_3) (fv 48 5) 0 0) (fv 62 0) 0 0) (fv 72 0) 0 (-1)) (fv 76 0) 0 0) from ((mx_wv rfl (mx_wv rfl (mx_wv rfl (mx_wv rfl (mx_mx rfl mx_rf)))))).symm] at hk
      exact hk
  · refine hO (k_htake_kp (by omega) (show 0 ≤ (f (fv 10 1) 0) ∧ (f (fv 10 1) 0) ≤ 60 from hn) (fun f1_25 (hh_26 : f1_25 (fv 20 0) 0 = (f (fv 1 0) 0) ∧ f1_25 (fv 20 13) 0 = (f (fv 1 13) 0) ∧ f1_25 (fv 20 14) 0 = (f (fv 1 14) 0) ∧ f1_25 (fv 20 15) 0 = (f (fv 1 15) 0) ∧ f1_25 (fv 20 16) 0 = (f (fv 1 16) 0) ∧ f1_25 (fv 20 17) 0 = (f (fv 1 17) 0)) (hh_27 : ∀ q, 0 ≤ q → q < 8 → f1_25 21 q = (f 2 q)) (hh_28 : ∀ q, 0 ≤ q → q < 8 → f1_25 22 q = (f 3 q)) (hh_29 : ∀ q, 0 ≤ q → q < 8 → f1_25 23 q = (f 4 q)) (hh_30 : ∀ q, 0 ≤ q → q < 8 → f1_25 24 q = (f 5 q)) (hh_31 : ∀ q, 0 ≤ q → q < 8 → f1_25 25 q = (f 6 q)) (hh_32 : ∀ q, 0 ≤ q → q < 29 → f1_25 26 q = (f 7 q)) (hh_33 : ∀ q, 0 ≤ q → q < 29 → f1_25 27 q = (f 8 q)) (hh_34 : ∀ q, 0 ≤ q → q < 29 → f1_25 28 q = (f 9 q)) (hh_35 : f1_25 (fv 29 1) 0 = (f (fv 10 1) 0)) (hh_36 : ∀ q, 0 ≤ q → q < (f (fv 10 1) 0) → f1_25 30 q = (f 11 q)) (hh_37 : ∀ q, 0 ≤ q → q < 240 → f1_25 32 q = (f 13 q)) (hh_38 : ∀ q, 0 ≤ q → q < 20 → f1_25 33 q = (f 14 q)) (hh_39 : f1_25 (fv 31 2) 0 = (f (fv 12 2) 0)) (hh_40 : ∀ q, 0 ≤ q → q < 400 → f1_25 35 q = (f 16 q)) (hh_41 : ∀ q, 0 ≤ q → q < 17 → f1_25 36 q = (f 17 q)) (hh_42 : ∀ q, 0 ≤ q → q < 16 → f1_25 37 q = (f 18 q)) (hh_43 : f1_25 (fv 34 3) 0 = (f (fv 15 3) 0) ∧ f1_25 (fv 34 4) 0 = (f (fv 15 4) 0) ∧ f1_25 (fv 34 5) 0 = (f (fv 15 5) 0)) (hh_44 : ∀ q, 0 ≤ q → q < 1000 → f1_25 38 q = (f 19 q)) => ?_))
    refine ⟨show (1 : Int) = 0 ∨ 1 = 1 from by decide, ?_⟩
    refine ⟨show (1 : Int) = 0 ∨ 1 = 1 from by decide, ?_⟩
    have hk := k1 (wv (mx [21, 22, 23, 24, 25, 26, 27, 28, 30, fv 29 1, 32, 33, fv 31 2, 35, 36, 37, fv 34 3, fv 34 4, fv 34 5, 38, fv 20 0, fv 20 13, fv 20 14, fv 20 15, fv 20 16, fv 20 17] f f1_25) (fv 0 2) 0 1) (by assumption) rfl hh_26 hh_27 hh_28 hh_29 hh_30 hh_31 hh_32 hh_33 hh_34 hh_35 hh_36 hh_37 hh_38 hh_39 hh_40 hh_41 hh_42 hh_43 hh_44
    rw [show mx [21, 22, 23, 24, 25, 26, 27, 28, 30, fv 29 1, 32, 33, fv 31 2, 35, 36, 37, fv 34 3, fv 34 4, fv 34 5, 38, fv 20 0, fv 20 13, fv 20 14, fv 20 15, fv 20 16, fv 20 17, fv 0 2] f (wv (mx [21, 22, 23, 24, 25, 26, 27, 28, 30, fv 29 1, 32, 33, fv 31 2, 35, 36, 37, fv 34 3, fv 34 4, fv 34 5, 38, fv 20 0, fv 20 13, fv 20 14, fv 20 15, fv 20 16, fv 20 17] f f1_25) (fv 0 2) 0 1) = (wv (mx [21, 22, 23, 24, 25, 26, 27, 28, 30, fv 29 1, 32, 33, fv 31 2, 35, 36, 37, fv 34 3, fv 34 4, fv 34 5, 38, fv 20 0, fv 20 13, fv 20 14, fv 20 15, fv 20 16, fv 20 17] f f1_25) (fv 0 2) 0 1) from ((mx_wv rfl (mx_mx rfl mx_rf))).symm] at hk
    exact hk
end C28
