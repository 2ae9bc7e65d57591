section C27
variable {d : Nat} {f : iF} {g : iG} {Q : Option iv → iF → iG → Prop}
set_option maxRecDepth 100000 in
set_option maxHeartbeats 4000000 in
theorem k_drop (hd : 1 ≤ d) (k0 : ∀ f1 : iF, (f1 (fv 48 5) 0 = 5) → (∀ q, 0 ≤ q → q < 40 → f1 49 q = (f 49 (8 + q))) → (∀ q, 0 ≤ q → q < 145 → f1 50 q = (f 50 (29 + q))) → (∀ q, 0 ≤ q → q < 5 → f1 51 q = (f 51 (1 + q)) ∧ f1 52 q = (f 52 (1 + q)) ∧ f1 53 q = (f 53 (1 + q))) → Q none (mx [49, 50, 51, 52, 53, fv 48 5] f f1) g) : wq d 178 [iR 48] f g Q := by
  obtain ⟨d, rfl⟩ : ∃ e, d = e + 1 := ⟨d - 1, by omega⟩
  refine i_meth0 rfl rfl (fun O J hO => ?_)
  refine ⟨show 0 ≤ (8 : Int) ∧ 0 ≤ (0 : Int) ∧ 0 ≤ (40 : Int) ∧ (8 : Int) + 40 ≤ 48 ∧ (0 : Int) + 40 ≤ 48 from by decide, ?_⟩
  refine ⟨show 0 ≤ (29 : Int) ∧ 0 ≤ (0 : Int) ∧ 0 ≤ (145 : Int) ∧ (29 : Int) + 145 ≤ 174 ∧ (0 : Int) + 145 ≤ 174 from by decide, ?_⟩
  refine ⟨show 0 ≤ (1 : Int) ∧ 0 ≤ (0 : Int) ∧ 0 ≤ (5 : Int) ∧ (1 : Int) + 5 ≤ 6 ∧ (0 : Int) + 5 ≤ 6 from by decide, ?_⟩
  refine ⟨show 0 ≤ (1 : Int) ∧ 0 ≤ (0 : Int) ∧ 0 ≤ (5 : Int) ∧ (1 : Int) + 5 ≤ 6 ∧ (0 : Int) + 5 ≤ 6 from by decide, ?_⟩
  refine ⟨show 0 ≤ (1 : Int) ∧ 0 ≤ (0 : Int) ∧ 0 ≤ (5 : Int) ∧ (1 : Int) + 5 ≤ 6 ∧ (0 : Int) + 5 ≤ 6 from by decide, ?_⟩
  have hk := k0 (wv (acpS (acpS (acpS (acpS (acpS f (f 49) 49 8 0 40) ((acp f 49 49 8 0 40) 50) 50 29 0 145) ((acp (acp f 49 49 8 0 40) 50 50 29 0 145) 51) 51 1 0 5) ((acp (acp (acp f 49 49 8 0 40) 50 50 29 0 145) 51 51 1 0 5) 52) 52 1 0 5) ((acp (acp (acp (acp f 49 49 8 0 40) 50 50 29 0 145) 51 51 1 0 5) 52 52 1 0 5) 53) 53 1 0 5) (fv 48 5) 0 5) rfl (fun q h0 h1 => by
    show acpS _ _ 49 8 0 40 49 q = _
    rw [acpS_i, if_pos ⟨by omega, by omega⟩, Int.sub_zero]
    try rfl) (fun q h0 h1 => by
    show acpS _ _ 50 29 0 145 50 q = _
    rw [acpS_i, if_pos ⟨by omega, by omega⟩, Int.sub_zero]
    try rfl) (fun q h0 h1 => ⟨by
    show acpS _ _ 51 1 0 5 51 q = _
    rw [acpS_i, if_pos ⟨by omega, by omega⟩, Int.sub_zero]
    try rfl, by
    show acpS _ _ 52 1 0 5 52 q = _
    rw [acpS_i, if_pos ⟨by omega, by omega⟩, Int.sub_zero]
    try rfl, by
    show acpS _ _ 53 1 0 5 53 q = _
    rw [acpS_i, if_pos ⟨by omega, by omega⟩, Int.sub_zero]
    try rfl⟩)
  rw [show mx [49, 50, 51, 52, 53, fv 48 5] f (wv (acpS (acpS (acpS (acpS (acpS f (f 49) 49 8 0 40) ((acp f 49 49 8 0 40) 50) 50 29 0 145) ((acp (acp f 49 49 8 0 40) 50 50 29 0 145) 51) 51 1 0 5) ((acp (acp (acp f 49 49 8 0 40) 50 50 29 0 145) 51 51 1 0 5) 52) 52 1 0 5) ((acp (acp (acp (acp f 49 49 8 0 40) 50 50 29 0 145) 51 51 1 0 5) 52 52 1 0 5) 53) 53 1 0 5) (fv 48 5) 0 5) = (wv (acp (acp (acp (acp (acp f 49 49 8 0 40) 50 50 29 0 145) 51 51 1 0 5) 52 52 1 0 5) 53 53 1 0 5) (fv 48 5) 0 5) from ((mx_wv rfl (mx_acp rfl (mx_acp rfl (mx_acp rfl (mx_acp rfl (mx_acp rfl mx_rf))))))).symm] at hk
  exact hk
set_option maxRecDepth 100000 in
set_option maxHeartbeats 4000000 in
theorem k_keep (hd : 2 ≤ d) (hu : 0 ≤ (f (fv 48 5) 0) ∧ (f (fv 48 5) 0) ≤ 6) (k0 : ∀ f1 : iF, (((f (fv 48 5) 0) = 6 ∧ f1 (fv 48 5) 0 = 6 ∧ (∀ q, 0 ≤ q → q < 40 → f1 49 q = (f 49 (8 + q))) ∧ (∀ a, 0 ≤ a → a < 8 → f1 49 (40 + a) = (f 2 a)) ∧ (∀ q, 0 ≤ q → q < 145 → f1 50 q = (f 50 (29 + q))) ∧ (∀ s, 0 ≤ s → s < 29 → f1 50 (145 + s) = (f 9 s)) ∧ (∀ q, 0 ≤ q → q < 5 → f1 51 q = (f 51 (1 + q)) ∧ f1 52 q = (f 52 (1 + q)) ∧ f1 53 q = (f 53 (1 + q))) ∧ f1 51 5 = (f (fv 1 13) 0) ∧ f1 52 5 = (f (fv 1 14) 0) ∧ f1 53 5 = (f (fv 1 17) 0)) ∨ ((f (fv 48 5) 0) < 6 ∧ f1 (fv 48 5) 0 = (f (fv 48 5) 0) + 1 ∧ (∀ q, 0 ≤ q → q < 8 * (f (fv 48 5) 0) → f1 49 q = (f 49 q)) ∧ (∀ a, 0 ≤ a → a < 8 → f1 49 (8 * (f (fv 48 5) 0) + a) = (f 2 a)) ∧ (∀ q, 0 ≤ q → q < 29 * (f (fv 48 5) 0) → f1 50 q = (f 50 q)) ∧ (∀ s, 0 ≤ s → s < 29 → f1 50 (29 * (f (fv 48 5) 0) + s) = (f 9 s)) ∧ (∀ q, 0 ≤ q → q < (f (fv 48 5) 0) → f1 51 q = (f 51 q) ∧ f1 52 q = (f 52 q) ∧ f1 53 q = (f 53 q)) ∧ f1 51 (f (fv 48 5) 0) = (f (fv 1 13) 0) ∧ f1 52 (f (fv 48 5) 0) = (f (fv 1 14) 0) ∧ f1 53 (f (fv 48 5) 0) = (f (fv 1 17) 0))) → Q none (mx [49, 50, 51, 52, 53, fv 48 5] f f1) g) : wq d 177 [iR 48, iR 1] f g Q := by
  obtain ⟨d, rfl⟩ : ∃ e, d = e + 1 := ⟨d - 1, by omega⟩
  refine i_meth0 rfl rfl (fun O J hO => ?_)
  refine ⟨fun (hh_1 : f (fv 48 5) 0 < 6) => ?_, fun (hh_1 : ¬ f (fv 48 5) 0 < 6) => ?_⟩
  · have hA5 := hh_1
    refine ⟨fun h => absurd (show f (fv 48 5) 0 < 0 from h) (by omega), fun _ => ?_⟩
    refine ⟨fun _ => ?_, fun h => absurd (show f (fv 48 5) 0 < 6 from by omega) h⟩
    refine Or.inl ⟨show inr ((f (fv 48 5) 0) * 8) from by constructor <;> omega, ?_⟩
    refine ⟨show 0 ≤ (0 : Int) ∧ 0 ≤ (((f (fv 48 5) 0) * 8) : Int) ∧ 0 ≤ (8 : Int) ∧ (0 : Int) + 8 ≤ 8 ∧ (((f (fv 48 5) 0) * 8) : Int) + 8 ≤ 48 from by omega, ?_⟩
    refine Or.inl ⟨show inr ((f (fv 48 5) 0) * 29) from by constructor <;> omega, ?_⟩
    refine ⟨show 0 ≤ (0 : Int) ∧ 0 ≤ (((f (fv 48 5) 0) * 29) : Int) ∧ 0 ≤ (29 : Int) ∧ (0 : Int) + 29 ≤ 29 ∧ (((f (fv 48 5) 0) * 29) : Int) + 29 ≤ 174 from by omega, ?_⟩
    refine ⟨show 0 ≤ (f (fv 48 5) 0 : Int) ∧ f (fv 48 5) 0 < 6 from by omega, ?_⟩
    refine ⟨show 0 ≤ (f (fv 48 5) 0 : Int) ∧ f (fv 48 5) 0 < 6 from by omega, ?_⟩
    refine ⟨show 0 ≤ (f (fv 48 5) 0 : Int) ∧ f (fv 48 5) 0 < 6 from by omega, ?_⟩
    refine Or.inl ⟨show inr ((f (fv 48 5) 0) + 1) from by constructor <;> omega, ?_⟩
    have hk := k0 (wv (wv (wv (wv (acpS (acpS f (f 2) 49 0 ((f (fv 48 5) 0) * 8) 8) ((acp f 2 49 0 ((f (fv 48 5) 0) * 8) 8) 9) 50 0 ((f (fv 48 5) 0) * 29) 29) 51 (f (fv 48 5) 0) (f (fv 1 13) 0)) 52 (f (fv 48 5) 0) (f (fv 1 14) 0)) 53 (f (fv 48 5) 0) (f (fv 1 17) 0)) (fv 48 5) 0 ((f (fv 48 5) 0) + 1)) (Or.inr ⟨hA5, rfl, fun q h0 h1 => by
        show acpS _ _ 49 0 (f (fv 48 5) 0 * 8) 8 49 q = _
        rw [acpS_i, if_neg (by omega)]
        try rfl, fun a h0 h1 => by
        show acpS _ _ 49 0 (f (fv 48 5) 0 * 8) 8 49 (8 * f (fv 48 5) 0 + a) = _
        rw [acpS_i, if_pos ⟨by omega, by omega⟩]
        show f 2 (0 + (_ - _)) = _
        first | done | (congr 1; omega), fun q h0 h1 => by
        show acpS _ _ 50 0 (f (fv 48 5) 0 * 29) 29 50 q = _
        rw [acpS_i, if_neg (by omega)]
        try rfl, fun s h0 h1 => by
        show acpS _ _ 50 0 (f (fv 48 5) 0 * 29) 29 50 (29 * f (fv 48 5) 0 + s) = _
        rw [acpS_i, if_pos ⟨by omega, by omega⟩]
        show f 9 (0 + (_ - _)) = _
        first | done | (congr 1; omega), fun q h0 h1 => ⟨by
        show wv _ 51 (f (fv 48 5) 0) _ 51 q = _
        rw [wv_k (by omega)]
        try rfl, by
        show wv _ 52 (f (fv 48 5) 0) _ 52 q = _
        rw [wv_k (by omega)]
        try rfl, by
        show wv _ 53 (f (fv 48 5) 0) _ 53 q = _
        rw [wv_k (by omega)]
        try rfl⟩, by
        show wv _ 51 (f (fv 48 5) 0) _ 51 (f (fv 48 5) 0) = _
        rw [wv_s]
        try rfl, by
        show wv _ 52 (f (fv 48 5) 0) _ 52 (f (fv 48 5) 0) = _
        rw [wv_s]
        try rfl, by
        show wv _ 53 (f (fv 48 5) 0) _ 53 (f (fv 48 5) 0) = _
        rw [wv_s]
        try rfl⟩)
    rw [show mx [49, 50, 51, 52, 53, fv 48 5] f (wv (wv (wv (wv (acpS (acpS f (f 2) 49 0 ((f (fv 48 5) 0) * 8) 8) ((acp f 2 49 0 ((f (fv 48 5) 0) * 8) 8) 9) 50 0 ((f (fv 48 5) 0) * 29) 29) 51 (f (fv 48 5) 0) (f (fv 1 13) 0)) 52 (f (fv 48 5) 0) (f (fv 1 14) 0)) 53 (f (fv 48 5) 0) (f (fv 1 17) 0)) (fv 48 5) 0 ((f (fv 48 5) 0) + 1)) = (wv (wv (wv (wv (acp (acp f 2 49 0 ((f (fv 48 5) 0) * 8) 8) 9 50 0 ((f (fv 48 5) 0) * 29) 29) 51 (f (fv 48 5) 0) (f (fv 1 13) 0)) 52 (f (fv 48 5) 0) (f (fv 1 14) 0)) 53 (f (fv 48 5) 0) (f (fv 1 17) 0)) (fv 48 5) 0 ((f (fv 48 5) 0) + 1)) from ((mx_wv rfl (mx_wv rfl (mx_wv rfl (mx_wv rfl (mx_acp rfl (mx_acp rfl mx_rf))))))).symm] at hk
    exact hk
  · refine hO (k_drop (by omega) (fun f1_2 (hh_3 : f1_2 (fv 48 5) 0 = 5) (hh_4 : ∀ q, 0 ≤ q → q < 40 → f1_2 49 q = (f 49 (8 + q))) (hh_5 : ∀ q, 0 ≤ q → q < 145 → f1_2 50 q = (f 50 (29 + q))) (hh_6 : ∀ q, 0 ≤ q → q < 5 → f1_2 51 q = (f 51 (1 + q)) ∧ f1_2 52 q = (f 52 (1 + q)) ∧ f1_2 53 q = (f 53 (1 + q))) => ?_))
    have hA6 : f (fv 48 5) 0 = 6 := by omega
    have hd0 := hh_3
    have hd1 := hh_4
    have hd2 := hh_5
    have hd3 := hh_6
    refine ⟨fun h => absurd (show f1_2 (fv 48 5) 0 < 0 from h) (by omega), fun _ => ?_⟩
    refine ⟨fun _ => ?_, fun h => absurd (show f1_2 (fv 48 5) 0 < 6 from by omega) h⟩
    refine Or.inl ⟨show inr ((f1_2 (fv 48 5) 0) * 8) from by constructor <;> omega, ?_⟩
    refine ⟨show 0 ≤ (0 : Int) ∧ 0 ≤ (((f1_2 (fv 48 5) 0) * 8) : Int) ∧ 0 ≤ (8 : Int) ∧ (0 : Int) + 8 ≤ 8 ∧ (((f1_2 (fv 48 5) 0) * 8) : Int) + 8 ≤ 48 from by omega, ?_⟩
    refine Or.inl ⟨show inr ((f1_2 (fv 48 5) 0) * 29) from by constructor <;> omega, ?_⟩
    refine ⟨show 0 ≤ (0 : Int) ∧ 0 ≤ (((f1_2 (fv 48 5) 0) * 29) : Int) ∧ 0 ≤ (29 : Int) ∧ (0 : Int) + 29 ≤ 29 ∧ (((f1_2 (fv 48 5) 0) * 29) : Int) + 29 ≤ 174 from by omega, ?_⟩
    refine ⟨show 0 ≤ (f1_2 (fv 48 5) 0 : Int) ∧ f1_2 (fv 48 5) 0 < 6 from by omega, ?_⟩
    refine ⟨show 0 ≤ (f1_2 (fv 48 5) 0 : Int) ∧ f1_2 (fv 48 5) 0 < 6 from by omega, ?_⟩
    refine ⟨show 0 ≤ (f1_2 (fv 48 5) 0 : Int) ∧ f1_2 (fv 48 5) 0 < 6 from by omega, ?_⟩
    refine Or.inl ⟨show inr ((f1_2 (fv 48 5) 0) + 1) from by constructor <;> omega, ?_⟩
    have hk := k0 (wv (wv (wv (wv (acpS (acpS f1_2 ((mx [49, 50, 51, 52, 53, fv 48 5] f f1_2) 2) 49 0 ((f1_2 (fv 48 5) 0) * 8) 8) ((acp (mx [49, 50, 51, 52, 53, fv 48 5] f f1_2) 2 49 0 ((f1_2 (fv 48 5) 0) * 8) 8) 9) 50 0 ((f1_2 (fv 48 5) 0) * 29) 29) 51 (f1_2 (fv 48 5) 0) (f (fv 1 13) 0)) 52 (f1_2 (fv 48 5) 0) (f (fv 1 14) 0)) 53 (f1_2 (fv 48 5) 0) (f (fv 1 17) 0)) (fv 48 5) 0 ((f1_2 (fv 48 5) 0) + 1)) (Or.inl ⟨hA6, by show f1_2 (fv 48 5) 0 + 1 = 6; omega, fun q h0 h1 => by
        show acpS _ _ 49 0 (f1_2 (fv 48 5) 0 * 8) 8 49 q = _
        rw [acpS_i, if_neg (by omega)]
        exact hd1 q h0 h1, fun a h0 h1 => by
        show acpS _ _ 49 0 (f1_2 (fv 48 5) 0 * 8) 8 49 (40 + a) = _
        rw [acpS_i, if_pos ⟨by omega, by omega⟩]
        show f 2 (0 + (_ - _)) = _
        first | done | (congr 1; omega), fun q h0 h1 => by
        show acpS _ _ 50 0 (f1_2 (fv 48 5) 0 * 29) 29 50 q = _
        rw [acpS_i, if_neg (by omega)]
        exact hd2 q h0 h1, fun s h0 h1 => by
        show acpS _ _ 50 0 (f1_2 (fv 48 5) 0 * 29) 29 50 (145 + s) = _
        rw [acpS_i, if_pos ⟨by omega, by omega⟩]
        show f 9 (0 + (_ - _)) = _
        first | done | (congr 1; omega), fun q h0 h1 => ⟨by
        show wv _ 51 (f1_2 (fv 48 5) 0) _ 51 q = _
        rw [wv_k (by omega)]
        exact (hd3 q h0 h1).1, by
        show wv _ 52 (f1_2 (fv 48 5) 0) _ 52 q = _
        rw [wv_k (by omega)]
        exact (hd3 q h0 h1).2.1, by
        show wv _ 53 (f1_2 (fv 48 5) 0) _ 53 q = _
        rw [wv_k (by omega)]
        exact (hd3 q h0 h1).2.2⟩, by
        show wv _ 51 (f1_2 (fv 48 5) 0) _ 51 5 = _
        rw [show (5 : Int) = f1_2 (fv 48 5) 0 by omega, wv_s]
        try rfl, by
        show wv _ 52 (f1_2 (fv 48 5) 0) _ 52 5 = _
        rw [show (5 : Int) = f1_2 (fv 48 5) 0 by omega, wv_s]
        try rfl, by
        show wv _ 53 (f1_2 (fv 48 5) 0) _ 53 5 = _
        rw [show (5 : Int) = f1_2 (fv 48 5) 0 by omega, wv_s]
        try rfl⟩)
    rw [show mx [49, 50, 51, 52, 53, fv 48 5] f (wv (wv (wv (wv (acpS (acpS f1_2 ((mx [49, 50, 51, 52, 53, fv 48 5] f f1_2) 2) 49 0 ((f1_2 (fv 48 5) 0) * 8) 8) ((acp (mx [49, 50, 51, 52, 53, fv 48 5] f f1_2) 2 49 0 ((f1_2 (fv 48 5) 0) * 8) 8) 9) 50 0 ((f1_2 (fv 48 5) 0) * 29) 29) 51 (f1_2 (fv 48 5) 0) (f (fv 1 13) 0)) 52 (f1_2 (fv 48 5) 0) (f (fv 1 14) 0)) 53 (f1_2 (fv 48 5) 0) (f (fv 1 17) 0)) (fv 48 5) 0 ((f1_2 (fv 48 5) 0) + 1)) = (wv (wv (wv (wv (acp (acp (mx [49, 50, 51, 52, 53, fv 48 5] f f1_2) 2 49 0 ((f1_2 (fv 48 5) 0) * 8) 8) 9 50 0 ((f1_2 (fv 48 5) 0) * 29) 29) 51 (f1_2 (fv 48 5) 0) (f (fv 1 13) 0)) 52 (f1_2 (fv 48 5) 0) (f (fv 1 14) 0)) 53 (f1_2 (fv 48 5) 0) (f (fv 1 17) 0)) (fv 48 5) 0 ((f1_2 (fv 48 5) 0) + 1)) from ((mx_wv rfl (mx_wv rfl (mx_wv rfl (mx_wv rfl (mx_acp rfl (mx_acp rfl rfl))))))).symm] at hk
    exact hk
set_option maxRecDepth 100000 in
set_option maxHeartbeats 4000000 in
theorem k_print (hd : 6 ≤ d) (hu : 0 ≤ (f (fv 48 5) 0) ∧ (f (fv 48 5) 0) ≤ 6) (hrw : rowB (f (fv 10 1) 0) 60 (f 11)) (hjl : 0 ≤ (f (fv 1 16) 0) ∧ (f (fv 1 16) 0) ≤ 1000) (hpu : ∀ a, 0 ≤ a → a < 8 → 0 ≤ (f 2 a) ∧ (f 2 a) ≤ 99999) (hro : 0 ≤ (f (fv 1 13) 0) ∧ (f (fv 1 13) 0) ≤ 200) (hcb : (coB f)) (hl : (lC f)) (hA : lwask (f (fv 15 5) 0) (lwC f)) (hday : 0 ≤ (f (fv 1 15) 0) ∧ (f (fv 1 15) 0) ≤ 9999) (hmo : mOK (lwC f) g) (k0 : ∀ f1 : iF, ∀ g1 : iG, (((f (fv 48 5) 0) = 6 ∧ f1 (fv 48 5) 0 = 6 ∧ (∀ q, 0 ≤ q → q < 40 → f1 49 q = (f 49 (8 + q))) ∧ (∀ a, 0 ≤ a → a < 8 → f1 49 (40 + a) = (f 2 a)) ∧ (∀ q, 0 ≤ q → q < 145 → f1 50 q = (f 50 (29 + q))) ∧ (∀ s, 0 ≤ s → s < 29 → f1 50 (145 + s) = (f 9 s)) ∧ (∀ q, 0 ≤ q → q < 5 → f1 51 q = (f 51 (1 + q)) ∧ f1 52 q = (f 52 (1 + q)) ∧ f1 53 q = (f 53 (1 + q))) ∧ f1 51 5 = (f (fv 1 13) 0) ∧ f1 52 5 = (f (fv 1 14) 0) ∧ f1 53 5 = (f (fv 1 17) 0)) ∨ ((f (fv 48 5) 0) < 6 ∧ f1 (fv 48 5) 0 = (f (fv 48 5) 0) + 1 ∧ (∀ q, 0 ≤ q → q < 8 * (f (fv 48 5) 0) → f1 49 q = (f 49 q)) ∧ (∀ a, 0 ≤ a → a < 8 → f1 49 (8 * (f (fv 48 5) 0) + a) = (f 2 a)) ∧ (∀ q, 0 ≤ q → q < 29 * (f (fv 48 5) 0) → f1 50 q = (f 50 q)) ∧ (∀ s, 0 ≤ s → s < 29 → f1 50 (29 * (f (fv 48 5) 0) + s) = (f 9 s)) ∧ (∀ q, 0 ≤ q → q < (f (fv 48 5) 0) → f1 51 q = (f 51 q) ∧ f1 52 q = (f 52 q) ∧ f1 53 q = (f 53 q)) ∧ f1 51 (f (fv 48 5) 0) = (f (fv 1 13) 0) ∧ f1 52 (f (fv 48 5) 0) = (f (fv 1 14) 0) ∧ f1 53 (f (fv 48 5) 0) = (f (fv 1 17) 0))) → (∀ a, 0 ≤ a → a < 8 → f1 2 a = (prI (aC f) (f 7) (f (fv 1 15) 0) (lwC f) (f 11) (f (fv 10 1) 0) (f (fv 1 16) 0) ((nwC f), (f 19), -1, 0) (f (fv 10 1) 0)).1 a) → (∀ t, 0 ≤ t → t < 29 → f1 9 t = (prI (aC f) (f 7) (f (fv 1 15) 0) (lwC f) (f 11) (f (fv 10 1) 0) (f (fv 1 16) 0) ((nwC f), (f 19), -1, 0) (f (fv 10 1) 0)).1 (8 + t)) → (f1 (fv 1 13) 0 = (prI (aC f) (f 7) (f (fv 1 15) 0) (lwC f) (f 11) (f (fv 10 1) 0) (f (fv 1 16) 0) ((nwC f), (f 19), -1, 0) (f (fv 10 1) 0)).1 37 ∧ f1 (fv 1 14) 0 = (prI (aC f) (f 7) (f (fv 1 15) 0) (lwC f) (f 11) (f (fv 10 1) 0) (f (fv 1 16) 0) ((nwC f), (f 19), -1, 0) (f (fv 10 1) 0)).1 38 ∧ f1 (fv 1 17) 0 = (prI (aC f) (f 7) (f (fv 1 15) 0) (lwC f) (f 11) (f (fv 10 1) 0) (f (fv 1 16) 0) ((nwC f), (f 19), -1, 0) (f (fv 10 1) 0)).1 39) → (f1 19 = (prI (aC f) (f 7) (f (fv 1 15) 0) (lwC f) (f 11) (f (fv 10 1) 0) (f (fv 1 16) 0) ((nwC f), (f 19), -1, 0) (f (fv 10 1) 0)).2.1) → (f1 11 = (f 11)) → (mOK (lwC f) g1) → Q (some (iI ((prI (aC f) (f 7) (f (fv 1 15) 0) (lwC f) (f 11) (f (fv 10 1) 0) (f (fv 1 16) 0) ((nwC f), (f 19), -1, 0) (f (fv 10 1) 0)).2.2.2))) (mx [49, 50, 51, 52, 53, fv 48 5, 2, 9, 11, 19, 55, 56, 57, 58, fv 1 13, fv 1 14, fv 1 17] f f1) g1) : wq d 197 [iR 0] f g Q := by
  obtain ⟨d, rfl⟩ : ∃ e, d = e + 1 := ⟨d - 1, by omega⟩
  refine i_meth0 rfl rfl (fun O J hO => ?_)
  refine hO (k_keep (by omega) (show 0 ≤ (f (fv 48 5) 0) ∧ (f (fv 48 5) 0) ≤ 6 from hu) (fun f1_1 (hh_2 : ((f (fv 48 5) 0) = 6 ∧ f1_1 (fv 48 5) 0 = 6 ∧ (∀ q, 0 ≤ q → q < 40 → f1_1 49 q = (f 49 (8 + q))) ∧ (∀ a, 0 ≤ a → a < 8 → f1_1 49 (40 + a) = (f 2 a)) ∧ (∀ q, 0 ≤ q → q < 145 → f1_1 50 q = (f 50 (29 + q))) ∧ (∀ s, 0 ≤ s → s < 29 → f1_1 50 (145 + s) = (f 9 s)) ∧ (∀ q, 0 ≤ q → q < 5 → f1_1 51 q = (f 51 (1 + q)) ∧ f1_1 52 q = (f 52 (1 + q)) ∧ f1_1 53 q = (f 53 (1 + q))) ∧ f1_1 51 5 = (f (fv 1 13) 0) ∧ f1_1 52 5 = (f (fv 1 14) 0) ∧ f1_1 53 5 = (f (fv 1 17) 0)) ∨ ((f (fv 48 5) 0) < 6 ∧ f1_1 (fv 48 5) 0 = (f (fv 48 5) 0) + 1 ∧ (∀ q, 0 ≤ q → q < 8 * (f (fv 48 5) 0) → f1_1 49 q = (f 49 q)) ∧ (∀ a, 0 ≤ a → a < 8 → f1_1 49 (8 * (f (fv 48 5) 0) + a) = (f 2 a)) ∧ (∀ q, 0 ≤ q → q < 29 * (f (fv 48 5) 0) → f1_1 50 q = (f 50 q)) ∧ (∀ s, 0 ≤ s → s < 29 → f1_1 50 (29 * (f (fv 48 5) 0) + s) = (f 9 s)) ∧ (∀ q, 0 ≤ q → q < (f (fv 48 5) 0) → f1_1 51 q = (f 51 q) ∧ f1_1 52 q = (f 52 q) ∧ f1_1 53 q = (f 53 q)) ∧ f1_1 51 (f (fv 48 5) 0) = (f (fv 1 13) 0) ∧ f1_1 52 (f (fv 48 5) 0) = (f (fv 1 14) 0) ∧ f1_1 53 (f (fv 48 5) 0) = (f (fv 1 17) 0))) => ?_))
  refine hO (k_printPage (by omega) (show rowB (f (fv 10 1) 0) 60 (f 11) from hrw) (show 0 ≤ (f (fv 1 16) 0) ∧ (f (fv 1 16) 0) ≤ 1000 from hjl) (show ∀ a, 0 ≤ a → a < 8 → 0 ≤ (f 2 a) ∧ (f 2 a) ≤ 99999 from hpu) (show 0 ≤ (f (fv 1 13) 0) ∧ (f (fv 1 13) 0) ≤ 200 from hro) (show (coB f) from hcb) (show (lC f) from hl) (show lwask (f (fv 15 5) 0) (lwC f) from hA) (show 0 ≤ (f (fv 1 15) 0) ∧ (f (fv 1 15) 0) ≤ 9999 from hday) (show mOK (lwC f) g from hmo) (fun f1_3 g1_4 (hh_5 : ∀ a, 0 ≤ a → a < 8 → f1_3 2 a = (prI (aC f) (f 7) (f (fv 1 15) 0) (lwC f) (f 11) (f (fv 10 1) 0) (f (fv 1 16) 0) ((nwC f), (f 19), -1, 0) (f (fv 10 1) 0)).1 a) (hh_6 : ∀ t, 0 ≤ t → t < 29 → f1_3 9 t = (prI (aC f) (f 7) (f (fv 1 15) 0) (lwC f) (f 11) (f (fv 10 1) 0) (f (fv 1 16) 0) ((nwC f), (f 19), -1, 0) (f (fv 10 1) 0)).1 (8 + t)) (hh_7 : f1_3 (fv 1 13) 0 = (prI (aC f) (f 7) (f (fv 1 15) 0) (lwC f) (f 11) (f (fv 10 1) 0) (f (fv 1 16) 0) ((nwC f), (f 19), -1, 0) (f (fv 10 1) 0)).1 37 ∧ f1_3 (fv 1 14) 0 = (prI (aC f) (f 7) (f (fv 1 15) 0) (lwC f) (f 11) (f (fv 10 1) 0) (f (fv 1 16) 0) ((nwC f), (f 19), -1, 0) (f (fv 10 1) 0)).1 38 ∧ f1_3 (fv 1 17) 0 = (prI (aC f) (f 7) (f (fv 1 15) 0) (lwC f) (f 11) (f (fv 10 1) 0) (f (fv 1 16) 0) ((nwC f), (f 19), -1, 0) (f (fv 10 1) 0)).1 39) (hh_8 : f1_3 19 = (prI (aC f) (f 7) (f (fv 1 15) 0) (lwC f) (f 11) (f (fv 10 1) 0) (f (fv 1 16) 0) ((nwC f), (f 19), -1, 0) (f (fv 10 1) 0)).2.1) (hh_9 : f1_3 11 = (f 11)) (hh_10 : mOK (lwC f) g1_4) => ?_))
  have hk := k0 (mx [2, 9, 11, 19, 55, 56, 57, 58, fv 1 13, fv 1 14, fv 1 17] (mx [49, 50, 51, 52, 53, fv 48 5] f f1_1) f1_3) g1_4 (by assumption) (by assumption) (by assumption) (by assumption) (by assumption) (by assumption) (by assumption)
  rw [show mx [49, 50, 51, 52, 53, fv 48 5, 2, 9, 11, 19, 55, 56, 57, 58, fv 1 13, fv 1 14, fv 1 17] f (mx [2, 9, 11, 19, 55, 56, 57, 58, fv 1 13, fv 1 14, fv 1 17] (mx [49, 50, 51, 52, 53, fv 48 5] f f1_1) f1_3) = (mx [2, 9, 11, 19, 55, 56, 57, 58, fv 1 13, fv 1 14, fv 1 17] (mx [49, 50, 51, 52, 53, fv 48 5] f f1_1) f1_3) from ((mx_mx rfl (mx_mx rfl mx_rf))).symm] at hk
  exact hk
set_option maxRecDepth 100000 in
set_option maxHeartbeats 4000000 in
theorem k_of {a w : Int} (hd : 6 ≤ d) (hc : 0 ≤ (f (fv 1 0) 0) ∧ (f (fv 1 0) 0) ≤ 8) (hrw : rowB (f (fv 10 1) 0) 60 (f 11)) (hcb : (coB f)) (hl : (lC f)) (hA : lwask (f (fv 15 5) 0) (lwC f)) (hday : 0 ≤ (f (fv 1 15) 0) ∧ (f (fv 1 15) 0) ≤ 9999) (hmo : mOK (lwC f) g) (k0 : ((0 ≤ a ∧ a < (f (fv 1 0) 0)) ∧ w = 0) → Q (some (iI (f 2 a))) f g) (k1 : ((0 ≤ a ∧ a < (f (fv 1 0) 0)) ∧ w = 1) → Q (some (iI (f 3 a))) f g) (k2 : ((0 ≤ a ∧ a < (f (fv 1 0) 0)) ∧ w = 2) → Q (some (iI (f 4 a))) f g) (k3 : ((0 ≤ a ∧ a < (f (fv 1 0) 0)) ∧ w = 3) → Q (some (iI (f 5 a))) f g) (k4 : ((0 ≤ a ∧ a < (f (fv 1 0) 0)) ∧ w = 4) → Q (some (iI (cI (fun s => decide ((f 7 s) = a)) 29))) f g) (k5 : ((0 ≤ a ∧ a < (f (fv 1 0) 0)) ∧ w = 5) → Q (some (iI (f 6 a))) f g) (k6 : ∀ f1 : iF, ∀ g1 : iG, ((0 ≤ a ∧ a < (f (fv 1 0) 0)) ∧ w = 6) → (mOK (lwC f) g1) → Q (some (iI (enI (aC f) (f 7) (f (fv 1 15) 0) (lwC f) (f 11) (f (fv 10 1) 0) a))) (mx [55, 56, 57, 58] f f1) g1) (k7 : (¬ ((0 ≤ a ∧ a < (f (fv 1 0) 0)) ∧ 0 ≤ w ∧ w ≤ 6)) → Q (some (iI (-2))) f g) : wq d 199 [iR 0, iI a, iI w] f g Q := by
  obtain ⟨d, rfl⟩ : ∃ e, d = e + 1 := ⟨d - 1, by omega⟩
  refine i_meth0 rfl rfl (fun O J hO => ?_)
  refine hO (k_has (by omega) (fun (hh_1 : 0 ≤ a) (hh_2 : a < (f (fv 1 0) 0)) (hh_3 : a < 8) => ?_) (fun (hh_4 : ¬ (0 ≤ a ∧ a < (f (fv 1 0) 0) ∧ a < 8)) => ?_))
  · refine ⟨fun h => absurd (show (1 : Int) = 0 from h) (by decide), fun _ => ?_⟩
    refine ⟨fun (hh_5 : w = 0) => ?_, fun (hh_5 : ¬ w = 0) => ?_⟩
    · refine ⟨show 0 ≤ (a : Int) ∧ a < 8 from by omega, ?_⟩
      exact k0 (by omega)
    · refine ⟨fun (hh_6 : w = 1) => ?_, fun (hh_6 : ¬ w = 1) => ?_⟩
      · refine ⟨show 0 ≤ (a : Int) ∧ a < 8 from by omega, ?_⟩
        exact k1 (by omega)
      · refine ⟨fun (hh_7 : w = 2) => ?_, fun (hh_7 : ¬ w = 2) => ?_⟩
        · refine ⟨show 0 ≤ (a : Int) ∧ a < 8 from by omega, ?_⟩
          exact k2 (by omega)
        · refine ⟨fun (hh_8 : w = 3) => ?_, fun (hh_8 : ¬ w = 3) => ?_⟩
          · refine ⟨show 0 ≤ (a : Int) ∧ a < 8 from by omega, ?_⟩
            exact k3 (by omega)
          · refine ⟨fun (hh_9 : w = 4) => ?_, fun (hh_9 : ¬ w = 4) => ?_⟩
            · refine hO (k_countOwned (by omega) ?_)
              exact k4 (by omega)
            · refine ⟨fun (hh_10 : w = 5) => ?_, fun (hh_10 : ¬ w = 5) => ?_⟩
              · refine ⟨show 0 ≤ (a : Int) ∧ a < 8 from by omega, ?_⟩
                exact k5 (by omega)
              · refine ⟨fun (hh_11 : w = 6) => ?_, fun (hh_11 : ¬ w = 6) => ?_⟩
                · refine hO (k_earnsByPage (by omega) (show rowB (f (fv 10 1) 0) 60 (f 11) from hrw) (show (coB f) from hcb) (show (lC f) from hl) (show lwask (f (fv 15 5) 0) (lwC f) from hA) (show 0 ≤ (f (fv 1 15) 0) ∧ (f (fv 1 15) 0) ≤ 9999 from hday) (show mOK (lwC f) g from hmo) (fun f1_12 g1_13 (hh_14 : mOK (lwC f) g1_13) => ?_))
                  exact k6 f1_12 g1_13 (by omega) (by assumption)
                · exact k7 (by omega)
  · refine ⟨fun _ => ?_, fun h => absurd (show (0 : Int) = 0 from by decide) h⟩
    exact k7 (by omega)
set_option maxRecDepth 100000 in
set_option maxHeartbeats 4000000 in
theorem k_pays {i : Int} (hd : 5 ≤ d) (hrw : rowB (f (fv 10 1) 0) 60 (f 11)) (hcb : (coB f)) (hl : (lC f)) (hA : lwask (f (fv 15 5) 0) (lwC f)) (hday : 0 ≤ (f (fv 1 15) 0) ∧ (f (fv 1 15) 0) ≤ 9999) (hmo : mOK (lwC f) g) (k0 : ∀ f1 : iF, ∀ g1 : iG, (0 ≤ i ∧ i < (f (fv 10 1) 0) ∧ ¬ (f 11 i) = 29) → (mOK (lwC f) g1) → Q (some (iI (pyI (aC f) (f 7) (f (fv 1 15) 0) (lwC f) (f 11) (f (fv 10 1) 0) i))) (mx [55, 56, 57, 58] f f1) g1) (k1 : (¬ (0 ≤ i ∧ i < (f (fv 10 1) 0) ∧ ¬ (f 11 i) = 29)) → Q (some (iI (-1))) f g) : wq d 202 [iR 0, iI i] f g Q := by
  obtain ⟨d, rfl⟩ : ∃ e, d = e + 1 := ⟨d - 1, by omega⟩
  refine i_meth0 rfl rfl (fun O J hO => ?_)
  have hrw1 := hrw.1
  refine hO (k_has_pg (by omega) (show (f (fv 10 1) 0) ≤ 60 from by omega) (fun (hh_1 : 0 ≤ i ∧ i < (f (fv 10 1) 0)) => ?_) (fun (hh_2 : ¬ (0 ≤ i ∧ i < (f (fv 10 1) 0))) => ?_))
  · have hri := hrw.2 i (by omega) (by omega)
    refine ⟨fun h => absurd (show (1 : Int) = 0 from h) (by decide), fun _ => ?_⟩
    refine hO (k_get_pg (by omega) (show 0 ≤ i ∧ i < 60 from by omega) ?_)
    refine hO (k_isSign (by omega) (fun (hh_3 : 0 ≤ (f 11 i)) (hh_4 : (f 11 i) < 29) => ?_) (fun (hh_5 : ¬ (0 ≤ (f 11 i) ∧ (f 11 i) < 29)) => ?_))
    · refine ⟨fun h => absurd (show (1 : Int) = 0 from h) (by decide), fun _ => ?_⟩
      refine hO (k_lookOver (by omega) (show (coB f) from hcb) (fun f1_6 (hh_7 : ∀ s, 0 ≤ s → s < 29 → f1_6 55 s = b1 ((aC f) s)) => ?_))
      have hab0 := hh_7
      refine hO (k_measure_pg (by omega) (show 0 ≤ 0 ∧ 0 ≤ (f (fv 10 1) 0) from by omega) (show 0 = 0 ∨ isL (f 11) (f (fv 10 1) 0) (0 - 1) = false from Or.inl rfl) (show rowB (f (fv 10 1) 0) 60 (f 11) from hrw) (show (abOK (mx [55] f f1_6)) from hab0) (fun f1_8 (hh_9 : bit (f (fv 15 5) 0) 2 = true → ∀ j, 0 ≤ j → j < (f (fv 10 1) 0) → f1_8 56 j = lgI (aC f) (f 11) (f (fv 10 1) 0) j) (hh_10 : ∀ j, 0 ≤ j → j < 0 → f1_8 56 j = (f 56 j)) => ?_))
      have hlg0 := hh_9
      refine hO (k_payAt_pg (by omega) (show 0 ≤ i ∧ i < (f (fv 10 1) 0) from by omega) (show rowB (f (fv 10 1) 0) 60 (f 11) from hrw) (show (f 11 i) < 29 from by omega) (show bit (f (fv 15 5) 0) 2 = true → (f1_8 56 i) = lgI (aC f) (f 11) (f (fv 10 1) 0) i from fun h => hlg0 h i (by omega) (by omega)) (show (coB f) from hcb) (show (abOK (mx [55] f f1_6)) from hab0) (show (lC f) from hl) (show lwask (f (fv 15 5) 0) (lwC f) from hA) (show 0 ≤ (f (fv 1 15) 0) ∧ (f (fv 1 15) 0) ≤ 9999 from hday) (show mOK (lwC f) g from hmo) (fun f1_11 g1_12 (hh_13 : mOK (lwC f) g1_12) => ?_))
      have hk := k0 (mx [57, 58] (mx [56] (mx [55] f f1_6) f1_8) f1_11) g1_12 (by omega) (by assumption)
      rw [show mx [55, 56, 57, 58] f (mx [57, 58] (mx [56] (mx [55] f f1_6) f1_8) f1_11) = (mx [57, 58] (mx [56] (mx [55] f f1_6) f1_8) f1_11) from ((mx_mx rfl (mx_mx rfl (mx_mx rfl mx_rf)))).symm] at hk
      exact hk
    · refine ⟨fun _ => ?_, fun h => absurd (show (0 : Int) = 0 from by decide) h⟩
      exact k1 (by omega)
  · refine ⟨fun _ => ?_, fun h => absurd (show (0 : Int) = 0 from by decide) h⟩
    exact k1 (by omega)
set_option maxRecDepth 100000 in
set_option maxHeartbeats 4000000 in
theorem k_lenOf {wo : Int} (hd : 1 ≤ d) (hw : 0 ≤ wo ∧ wo < (f (fv 12 2) 0) ∧ (f (fv 12 2) 0) ≤ 20) (k0 : Q (some (iI (f 14 wo))) f g) : wq d 182 [iR 12, iI wo] f g Q := by
  obtain ⟨d, rfl⟩ : ∃ e, d = e + 1 := ⟨d - 1, by omega⟩
  refine i_meth0 rfl rfl (fun O J hO => ?_)
  refine ⟨fun h => absurd (show wo < 0 from h) (by omega), fun _ => ?_⟩
  refine ⟨fun _ => ?_, fun h => absurd (show wo < f (fv 12 2) 0 from by omega) h⟩
  refine ⟨show 0 ≤ (wo : Int) ∧ wo < 20 from by omega, ?_⟩
  exact k0
set_option maxRecDepth 100000 in
set_option maxHeartbeats 4000000 in
theorem k_letter {wo i : Int} (hd : 1 ≤ d) (hw : 0 ≤ wo ∧ wo < 20 ∧ 0 ≤ i ∧ i < 12) (k0 : Q (some (iI (f 13 (wo * 12 + i)))) f g) : wq d 183 [iR 12, iI wo, iI i] f g Q := by
  obtain ⟨d, rfl⟩ : ∃ e, d = e + 1 := ⟨d - 1, by omega⟩
  refine i_meth0 rfl rfl (fun O J hO => ?_)
  refine Or.inl ⟨show inr (wo * 12) from by constructor <;> omega, ?_⟩
  refine Or.inl ⟨show inr ((wo * 12) + i) from by constructor <;> omega, ?_⟩
  refine ⟨fun h => absurd (show ((wo * 12) + i) < 0 from h) (by omega), fun _ => ?_⟩
  refine ⟨fun _ => ?_, fun h => absurd (show ((wo * 12) + i) < 240 from by omega) h⟩
  refine ⟨show 0 ≤ (((wo * 12) + i) : Int) ∧ ((wo * 12) + i) < 240 from by omega, ?_⟩
  exact k0
set_option maxRecDepth 100000 in
set_option maxHeartbeats 4000000 in
theorem k_canSet {wo : Int} (hd : 2 ≤ d) (hw : 0 ≤ wo ∧ wo < (f (fv 12 2) 0) ∧ (f (fv 12 2) 0) ≤ 20) (hL : 1 ≤ (f 14 wo) ∧ (f 14 wo) ≤ 12) (hab : (abOK f)) (k0 : (cI (fun j => !(aC f) (f 13 (12 * wo + j))) (f 14 wo) = 0) → Q (some (iI 1)) f g) (k1 : (¬ cI (fun j => !(aC f) (f 13 (12 * wo + j))) (f 14 wo) = 0) → Q (some (iI 0)) f g) : wq d 153 [iR 54, iI wo] f g Q := by
  obtain ⟨d, rfl⟩ : ∃ e, d = e + 1 := ⟨d - 1, by omega⟩
  refine i_meth [(2, 3)] (fun n j lv st f' g' => (j = 2 ∧ ∃ (i : Int), lv = [some (iR 54), some (iI wo), some (iI i)] ∧ st = [] ∧ f = f' ∧ g = g' ∧ (0 ≤ i ∧ i ≤ f 14 wo) ∧ (cI (fun j => !aC f (f 13 (12 * wo + j))) i = 0) ∧ (n : Int) = f 14 wo - i)) 12 (by omega) rfl rfl (fun n j lv st f' g' hn hI O J hO hF hB => ?_) (fun hvs hin O J hO hF => ?_)
  · obtain ⟨rfl, i, rfl, rfl, rfl, rfl, hi, hz, hm⟩ := hI
    refine hO (k_lenOf (by omega) (show 0 ≤ wo ∧ wo < (f (fv 12 2) 0) ∧ (f (fv 12 2) 0) ≤ 20 from hw) ?_)
    refine ⟨fun (hh_1 : i < (f 14 wo)) => ?_, fun (hh_1 : ¬ i < (f 14 wo)) => ?_⟩
    · refine hO (k_letter (by omega) (show 0 ≤ wo ∧ wo < 20 ∧ 0 ≤ i ∧ i < 12 from by omega) ?_)
      refine hO (k_isAble (by omega) (show (abOK f) from hab) (fun (hh_2 : (aC f) (f 13 (wo * 12 + i)) = true) => ?_) (fun (hh_3 : (aC f) (f 13 (wo * 12 + i)) = false) => ?_))
      · refine ⟨fun h => absurd (show (1 : Int) = 0 from h) (by decide), fun _ => ?_⟩
        refine ⟨show inr (i + 1) from by constructor <;> omega, ?_⟩
        refine hB (f 14 wo - (i + 1) : Int).toNat ?_ ⟨rfl, (i + 1), rfl, rfl, rfl, rfl, ?_, ?_, ?_⟩
        · omega
        · omega
        · rw [cI_f (by omega) (by rw [show 12 * wo + i = wo * 12 + i by omega, ‹aC f _ = true›]; rfl)]; exact hz
        · omega
      · refine ⟨fun _ => ?_, fun h => absurd (show (0 : Int) = 0 from by decide) h⟩
        refine ⟨show (0 : Int) = 0 ∨ 0 = 1 from by decide, ?_⟩
        exact k1 (by have := cI_pos (q := fun j => !aC f (f 13 (12 * wo + j))) (n := f 14 wo) (k := i) (by omega) (by omega) (by omega) (by show (!aC f (f 13 (12 * wo + i))) = true; rw [show 12 * wo + i = wo * 12 + i by omega, ‹aC f _ = false›]; rfl); omega)
    · refine ⟨show (1 : Int) = 0 ∨ 1 = 1 from by decide, ?_⟩
      rw [show i = f 14 wo by omega] at hz
      exact k0 hz
  · refine hF (f 14 wo - 0 : Int).toNat ?_ ⟨rfl, 0, rfl, rfl, rfl, rfl, ?_, ?_, ?_⟩
    · omega
    · omega
    · rfl
    · omega
set_option maxRecDepth 100000 in
set_option maxHeartbeats 4000000 in
theorem k_can (hd : 4 ≤ d) (hwl : wlB (f 14) (f 13) (f (fv 12 2) 0)) (hcb : (coB f)) (k0 : ∀ f1 : iF, Q (some (iI (stI (fun w => decide (cI (fun j => !(aC f) (f 13 (12 * w + j))) (f 14 w) = 0)) (f (fv 12 2) 0)))) (mx [55] f f1) g) : wq d 206 [iR 0] f g Q := by
  obtain ⟨d, rfl⟩ : ∃ e, d = e + 1 := ⟨d - 1, by omega⟩
  refine i_meth [(7, 3)] (fun n j lv st f' g' => (j = 7 ∧ ∃ (st0 : Int) (w : Int) (f1 : iF), lv = [some (iR 0), some (iI st0), some (iI w)] ∧ st = [] ∧ f' = (mx [55] f f1) ∧ g = g' ∧ (0 ≤ w ∧ w ≤ f (fv 12 2) 0) ∧ ((abOK (mx [55] f f1))) ∧ (st0 = stI (fun w => decide (cI (fun j => !aC f (f 13 (12 * w + j))) (f 14 w) = 0)) w) ∧ (n : Int) = f (fv 12 2) 0 - w)) 20 (by omega) rfl rfl (fun n j lv st f' g' hn hI O J hO hF hB => ?_) (fun hvs hin O J hO hF => ?_)
  · obtain ⟨rfl, st0, w, f1, rfl, rfl, rfl, rfl, hw, hab, hs, hm⟩ := hI
    have hwl1 := hwl.1
    refine ⟨fun (hh_1 : w < f (fv 12 2) 0) => ?_, fun (hh_1 : ¬ w < f (fv 12 2) 0) => ?_⟩
    · have hwa := hwl.2 w (by omega) (by omega)
      refine hO (k_canSet (by omega) (show 0 ≤ w ∧ w < (f (fv 12 2) 0) ∧ (f (fv 12 2) 0) ≤ 20 from by omega) (show 1 ≤ (f 14 w) ∧ (f 14 w) ≤ 12 from by omega) (show (abOK (mx [55] f f1)) from hab) (fun (hh_2 : cI (fun j => !(aC f) (f 13 (12 * w + j))) (f 14 w) = 0) => ?_) (fun (hh_3 : ¬ cI (fun j => !(aC f) (f 13 (12 * w + j))) (f 14 w) = 0) => ?_))
      · refine ⟨fun h => absurd (show (1 : Int) = 0 from h) (by decide), fun _ => ?_⟩
        refine ⟨show inr (w + 1) from by constructor <;> omega, ?_⟩
        refine hB (f (fv 12 2) 0 - (w + 1) : Int).toNat ?_ ⟨rfl, (b_or st0 (b_shl 1 w)), (w + 1), f1, rfl, rfl, rfl, rfl, ?_, ?_, ?_, ?_⟩
        · omega
        · omega
        · exact hab
        · rw [stI_t (by omega) (decide_eq_true (by assumption)), ← hs]
        · omega
      · refine ⟨fun _ => ?_, fun h => absurd (show (0 : Int) = 0 from by decide) h⟩
        refine ⟨show inr (w + 1) from by constructor <;> omega, ?_⟩
        refine hB (f (fv 12 2) 0 - (w + 1) : Int).toNat ?_ ⟨rfl, st0, (w + 1), f1, rfl, rfl, rfl, rfl, ?_, ?_, ?_, ?_⟩
        · omega
        · omega
        · exact hab
        · rw [stI_f (by omega) (decide_eq_false (by assumption)), ← hs]
        · omega
    · rw [show w = f (fv 12 2) 0 by omega] at hs
      rw [← hs] at k0
      exact k0 f1
  · have hwl1 := hwl.1
    refine hO (k_lookOver (by omega) (show (coB f) from hcb) (fun f1_4 (hh_5 : ∀ s, 0 ≤ s → s < 29 → f1_4 55 s = b1 ((aC f) s)) => ?_))
    have hab0 := hh_5
    refine hF (f (fv 12 2) 0 - 0 : Int).toNat ?_ ⟨rfl, 0, 0, f1_4, rfl, rfl, rfl, rfl, ?_, ?_, ?_, ?_⟩
    · omega
    · omega
    · exact hab0
    · rfl
    · omega
/-- who can print, if a were on strike -/
def aCs (f : iF) (a : Int) : Int → Bool := abl (f 8) (f 7) (up (f 4) a 1)
theorem aCs_eq {f F : iF} {a : Int} (h1 : F 8 = f 8) (h2 : F 7 = f 7) (h3 : F 4 = up (f 4) a 1) : aC F = aCs f a := by
  unfold aC aCs
  rw [h1, h2, h3]
theorem coB_eq {f F : iF} (h1 : F 7 = f 7) (h2 : F (fv 1 0) 0 = f (fv 1 0) 0) (h : coB f) : coB F := by
  unfold coB
  rw [h1, h2]
  exact h
set_option maxRecDepth 100000 in
set_option maxHeartbeats 4000000 in
theorem k_signsOn {a : Int} (hd : 4 ≤ d) (hrw : rowB (f (fv 10 1) 0) 60 (f 11)) (hcb : (coB f)) (k0 : ∀ f1 : iF, Q (some (iI (cI (fun i => (aC f) (f 11 i) && decide ((f 7) (f 11 i) = a)) (f (fv 10 1) 0)))) (mx [55] f f1) g) : wq d 155 [iR 54, iI a] f g Q := by
  obtain ⟨d, rfl⟩ : ∃ e, d = e + 1 := ⟨d - 1, by omega⟩
  refine i_meth [(6, 4)] (fun n j lv st f' g' => (j = 6 ∧ ∃ (c : Int) (i : Int) (f1 : iF), lv = [some (iR 54), some (iI a), some (iI c), some (iI i)] ∧ st = [] ∧ f' = (mx [55] f f1) ∧ g = g' ∧ (0 ≤ i ∧ i ≤ f (fv 10 1) 0 ∧ 0 ≤ c ∧ c ≤ i) ∧ ((abOK (mx [55] f f1))) ∧ (c = cI (fun i => aC f (f 11 i) && decide (f 7 (f 11 i) = a)) i) ∧ (n : Int) = f (fv 10 1) 0 - i)) 60 (by omega) rfl rfl (fun n j lv st f' g' hn hI O J hO hF hB => ?_) (fun hvs hin O J hO hF => ?_)
  · obtain ⟨rfl, c, i, f1, rfl, rfl, rfl, rfl, hi, hab, hc, hm⟩ := hI
    have hrw1 := hrw.1
    refine ⟨fun (hh_1 : i < f (fv 10 1) 0) => ?_, fun (hh_1 : ¬ i < f (fv 10 1) 0) => ?_⟩
    · have hri := hrw.2 i (by omega) (by omega)
      refine hO (k_get_pg (by omega) (show 0 ≤ i ∧ i < 60 from by omega) ?_)
      refine hO (k_isAble (by omega) (show (abOK (mx [55] f f1)) from hab) (fun (hh_2 : (aC f) (f 11 i) = true) => ?_) (fun (hh_3 : (aC f) (f 11 i) = false) => ?_))
      · have hai := aC_in _ hh_2
        refine ⟨fun h => absurd (show (1 : Int) = 0 from h) (by decide), fun _ => ?_⟩
        refine ⟨show 0 ≤ ((f 11 i) : Int) ∧ (f 11 i) < 29 from by omega, ?_⟩
        refine ⟨fun (hh_4 : f 7 (f 11 i) = a) => ?_, fun (hh_4 : ¬ f 7 (f 11 i) = a) => ?_⟩
        · refine ⟨show inr (c + 1) from by constructor <;> omega, ?_⟩
          refine ⟨show inr (i + 1) from by constructor <;> omega, ?_⟩
          refine hB (f (fv 10 1) 0 - (i + 1) : Int).toNat ?_ ⟨rfl, (c + 1), (i + 1), f1, rfl, rfl, rfl, rfl, ?_, ?_, ?_, ?_⟩
          · omega
          · omega
          · exact hab
          · first | (rw [cI_t (by omega) (by rw [‹aC f _ = true›, decide_eq_true ‹_ = a›]; rfl)]; omega) | (rw [cI_f (by omega) (by rw [‹aC f _ = false›]; rfl)]; omega) | (rw [cI_f (by omega) (by rw [decide_eq_false ‹¬ _ = a›, Bool.and_false])]; omega)
          · omega
        · refine ⟨show inr (i + 1) from by constructor <;> omega, ?_⟩
          refine hB (f (fv 10 1) 0 - (i + 1) : Int).toNat ?_ ⟨rfl, c, (i + 1), f1, rfl, rfl, rfl, rfl, ?_, ?_, ?_, ?_⟩
          · omega
          · omega
          · exact hab
          · first | (rw [cI_t (by omega) (by rw [‹aC f _ = true›, decide_eq_true ‹_ = a›]; rfl)]; omega) | (rw [cI_f (by omega) (by rw [‹aC f _ = false›]; rfl)]; omega) | (rw [cI_f (by omega) (by rw [decide_eq_false ‹¬ _ = a›, Bool.and_false])]; omega)
          · omega
      · refine ⟨fun _ => ?_, fun h => absurd (show (0 : Int) = 0 from by decide) h⟩
        refine ⟨show inr (i + 1) from by constructor <;> omega, ?_⟩
        refine hB (f (fv 10 1) 0 - (i + 1) : Int).toNat ?_ ⟨rfl, c, (i + 1), f1, rfl, rfl, rfl, rfl, ?_, ?_, ?_, ?_⟩
        · omega
        · omega
        · exact hab
        · first | (rw [cI_t (by omega) (by rw [‹aC f _ = true›, decide_eq_true ‹_ = a›]; rfl)]; omega) | (rw [cI_f (by omega) (by rw [‹aC f _ = false›]; rfl)]; omega) | (rw [cI_f (by omega) (by rw [decide_eq_false ‹¬ _ = a›, Bool.and_false])]; omega)
        · omega
    · rw [show i = f (fv 10 1) 0 by omega] at hc
      rw [← hc] at k0
      exact k0 f1
  · have hrw1 := hrw.1
    refine hO (k_lookOver (by omega) (show (coB f) from hcb) (fun f1_5 (hh_6 : ∀ s, 0 ≤ s → s < 29 → f1_5 55 s = b1 ((aC f) s)) => ?_))
    have hab0 := hh_6
    refine hF (f (fv 10 1) 0 - 0 : Int).toNat ?_ ⟨rfl, 0, 0, f1_5, rfl, rfl, rfl, rfl, ?_, ?_, ?_, ?_⟩
    · omega
    · omega
    · exact hab0
    · rfl
    · omega
set_option maxRecDepth 100000 in
set_option maxHeartbeats 4000000 in
theorem k_loss {ap : Int} (hd : 5 ≤ d) (ha : 0 ≤ ap ∧ ap < (f (fv 1 0) 0) ∧ (f (fv 1 0) 0) ≤ 8) (hrw : rowB (f (fv 10 1) 0) 60 (f 11)) (hcb : (coB f)) (hl : (lC f)) (hA : lwask (f (fv 15 5) 0) (lwC f)) (hday : 0 ≤ (f (fv 1 15) 0) ∧ (f (fv 1 15) 0) ≤ 9999) (hmo : mOK (lwC f) g) (k0 : ∀ f1 : iF, ∀ g1 : iG, (mOK (lwC f) g1) → (f1 4 = (f 4)) → Q (some (iI (sI (fun o => if o = ap then 0 else enI (aC f) (f 7) (f (fv 1 15) 0) (lwC f) (f 11) (f (fv 10 1) 0) o - enI ((aCs f) ap) (f 7) (f (fv 1 15) 0) (lwC f) (f 11) (f (fv 10 1) 0) o) 8))) (mx [4, 55, 56, 57, 58, 60, 61] f f1) g1) : wq d 154 [iR 54, iI ap] f g Q := by
  obtain ⟨d, rfl⟩ : ∃ e, d = e + 1 := ⟨d - 1, by omega⟩
  refine i_meth [(47, 5)] (fun n j lv st f' g' => (j = 47 ∧ ∃ (sv : Int) (c : Int) (k : Int) (f1 : iF) (g1 : iG), lv = [some (iR 54), some (iI ap), some (iI sv), some (iI c), some (iI k)] ∧ st = [] ∧ f' = (mx [4, 55, 56, 57, 58, 60, 61] f f1) ∧ g1 = g' ∧ (0 ≤ k ∧ k ≤ 8 ∧ -5940 * k ≤ c ∧ c ≤ 5940 * k) ∧ (∀ o, 0 ≤ o → o < 8 → f1 60 o = enI (aC f) (f 7) (f (fv 1 15) 0) (lwC f) (f 11) (f (fv 10 1) 0) o) ∧ (∀ o, 0 ≤ o → o < 8 → f1 61 o = enI (aCs f ap) (f 7) (f (fv 1 15) 0) (lwC f) (f 11) (f (fv 10 1) 0) o) ∧ (f1 4 = f 4) ∧ (mOK (lwC f) g1) ∧ (c = sI (fun o => if o = ap then 0 else enI (aC f) (f 7) (f (fv 1 15) 0) (lwC f) (f 11) (f (fv 10 1) 0) o - enI (aCs f ap) (f 7) (f (fv 1 15) 0) (lwC f) (f 11) (f (fv 10 1) 0) o) k) ∧ (n : Int) = 8 - k)) 8 (by omega) rfl rfl (fun n j lv st f' g' hn hI O J hO hF hB => ?_) (fun hvs hin O J hO hF => ?_)
  · obtain ⟨rfl, sv, c, k, f1, g1, rfl, rfl, rfl, rfl, hk, h60, h61, h4, hmo1, hs, hm⟩ := hI
    have hrw1 := hrw.1
    refine ⟨fun (hh_1 : k < 8) => ?_, fun (hh_1 : ¬ k < 8) => ?_⟩
    · have ek := h60 k (by omega) (by omega)
      have ek2 := h61 k (by omega) (by omega)
      have er1 := enI_r (ab := aC f) (ow := f 7) (day := f (fv 1 15) 0) (w := lwC f) (row := f 11) (n := f (fv 10 1) 0) (a := k) hrw1
      have er2 := enI_r (ab := aCs f ap) (ow := f 7) (day := f (fv 1 15) 0) (w := lwC f) (row := f 11) (n := f (fv 10 1) 0) (a := k) hrw1
      refine ⟨fun (hh_2 : k = ap) => ?_, fun (hh_2 : ¬ k = ap) => ?_⟩
      · refine Or.inl ⟨show inr (c + 0) from by constructor <;> omega, ?_⟩
        refine ⟨show inr (k + 1) from by constructor <;> omega, ?_⟩
        refine hB (8 - (k + 1) : Int).toNat ?_ ⟨rfl, sv, (c + 0), (k + 1), f1, g1, rfl, rfl, rfl, rfl, ?_, ?_, ?_, ?_, ?_, ?_, ?_⟩
        · omega
        · omega
        · exact h60
        · exact h61
        · exact h4
        · exact hmo1
        · rw [sI_s (by omega)]
          first | (rw [if_pos (by omega)]; omega) | (rw [if_neg (by omega)]; omega)
        · omega
      · refine ⟨show 0 ≤ (k : Int) ∧ k < 8 from by omega, ?_⟩
        refine ⟨show 0 ≤ (k : Int) ∧ k < 8 from by omega, ?_⟩
        refine Or.inl ⟨show inr ((f1 60 k) - (f1 61 k)) from by constructor <;> omega, ?_⟩
        refine Or.inl ⟨show inr (c + ((f1 60 k) - (f1 61 k))) from by constructor <;> omega, ?_⟩
        refine ⟨show inr (k + 1) from by constructor <;> omega, ?_⟩
        refine hB (8 - (k + 1) : Int).toNat ?_ ⟨rfl, sv, (c + ((f1 60 k) - (f1 61 k))), (k + 1), f1, g1, rfl, rfl, rfl, rfl, ?_, ?_, ?_, ?_, ?_, ?_, ?_⟩
        · omega
        · omega
        · exact h60
        · exact h61
        · exact h4
        · exact hmo1
        · rw [sI_s (by omega)]
          first | (rw [if_pos (by omega)]; omega) | (rw [if_neg (by omega)]; omega)
        · omega
    · rw [show k = 8 by omega] at hs
      rw [← hs] at k0
      exact k0 f1 g1 hmo1 h4
  · have hrw1 := hrw.1
    have hcb1 := hcb.1
    refine hO (k_has (by omega) (fun (hh_3 : 0 ≤ ap) (hh_4 : ap < (f (fv 1 0) 0)) (hh_5 : ap < 8) => ?_) (fun (hh_6 : ¬ (0 ≤ ap ∧ ap < (f (fv 1 0) 0) ∧ ap < 8)) => ?_))
    · refine ⟨fun h => absurd (show (1 : Int) = 0 from h) (by decide), fun _ => ?_⟩
      refine hO (k_lookOver (by omega) (show (coB f) from hcb) (fun f1_7 (hh_8 : ∀ s, 0 ≤ s → s < 29 → f1_7 55 s = b1 ((aC f) s)) => ?_))
      have hab1 := hh_8
      refine hO (k_earnings_pg_60 (by omega) (show rowB (f (fv 10 1) 0) 60 (f 11) from hrw) (show (coB f) from hcb) (show (abOK (mx [55] f f1_7)) from hab1) (show (lC f) from hl) (show lwask (f (fv 15 5) 0) (lwC f) from hA) (show 0 ≤ (f (fv 1 15) 0) ∧ (f (fv 1 15) 0) ≤ 9999 from hday) (show mOK (lwC f) g from hmo) (fun f1_9 g1_10 (hh_11 : ∀ a, 0 ≤ a → a < 8 → f1_9 60 a = enI (aC f) (f 7) (f (fv 1 15) 0) (lwC f) (f 11) (f (fv 10 1) 0) a) (hh_12 : mOK (lwC f) g1_10) => ?_))
      have he60 := hh_11
      have hmoA := hh_12
      refine ⟨show 0 ≤ (ap : Int) ∧ ap < 8 from by omega, ?_⟩
      refine ⟨show 0 ≤ (ap : Int) ∧ ap < 8 from by omega, ?_⟩
      have haC : (aC (wv f 4 ap 1)) = aCs f ap := aCs_eq rfl rfl (by show wv _ 4 ap 1 4 = _; rw [wv_up]; try rfl)
      have hcb2 : (coB f) := coB_eq (f := f) rfl rfl hcb
      refine hO (k_lookOver (by omega) (show (coB f) from hcb2) (fun f1_13 (hh_14 : ∀ s, 0 ≤ s → s < 29 → f1_13 55 s = b1 ((aC (wv f 4 ap 1)) s)) => ?_))
      have hab2 := hh_14
      refine hO (k_earnings_pg_61 (by omega) (show rowB (f (fv 10 1) 0) 60 (f 11) from hrw) (show (coB f) from hcb2) (show (abOK (mx [55] (wv (mx [55] f f1_7) 4 ap 1) f1_13)) from hab2) (show (lC f) from hl) (show lwask (f (fv 15 5) 0) (lwC f) from hA) (show 0 ≤ (f (fv 1 15) 0) ∧ (f (fv 1 15) 0) ≤ 9999 from hday) (show mOK (lwC f) g1_10 from hmoA) (fun f1_15 g1_16 (hh_17 : ∀ a, 0 ≤ a → a < 8 → f1_15 61 a = enI (aC (wv f 4 ap 1)) (f 7) (f (fv 1 15) 0) (lwC f) (f 11) (f (fv 10 1) 0) a) (hh_18 : mOK (lwC f) g1_16) => ?_))
      have he61 := hh_17
      rw [haC] at he61
      have hmoB := hh_18
      refine ⟨show 0 ≤ (ap : Int) ∧ ap < 8 from by omega, ?_⟩
      have hb4 : ((wv (mx [56, 57, 58, 61] (mx [55] (wv (mx [56, 57, 58, 60] (mx [55] f f1_7) f1_9) 4 ap 1) f1_13) f1_15) 4 ap (f 4 ap)) 4) = f 4 := by rw [show ((wv (mx [56, 57, 58, 61] (mx [55] (wv (mx [56, 57, 58, 60] (mx [55] f f1_7) f1_9) 4 ap 1) f1_13) f1_15) 4 ap (f 4 ap)) 4) = up ((wv (mx [56, 57, 58, 60] (mx [55] f f1_7) f1_9) 4 ap 1) 4) ap (f 4 ap) from wv_up, show (wv (mx [56, 57, 58, 60] (mx [55] f f1_7) f1_9) 4 ap 1) 4 = up (f 4) ap 1 from wv_up, up_up]
      refine hF (8 - 0 : Int).toNat ?_ ⟨rfl, f 4 ap, 0, 0, (wv (mx [56, 57, 58, 61] (mx [55] (wv (mx [56, 57, 58, 60] (mx [55] f f1_7) f1_9) 4 ap 1) f1_13) f1_15) 4 ap (f 4 ap)), g1_16, rfl, rfl, (mx_wv rfl (mx_mx rfl (mx_mx rfl (mx_wv rfl (mx_mx rfl (mx_mx rfl mx_rf)))))), rfl, ?_, ?_, ?_, ?_, ?_, ?_, ?_⟩
      · omega
      · omega
      · exact he60
      · exact he61
      · exact hb4
      · exact hmoB
      · rfl
      · omega
    · omega
set_option maxRecDepth 100000 in
set_option maxHeartbeats 4000000 in
theorem k_hurts {a w : Int} (hd : 6 ≤ d) (hc : 0 ≤ (f (fv 1 0) 0) ∧ (f (fv 1 0) 0) ≤ 8) (hrw : rowB (f (fv 10 1) 0) 60 (f 11)) (hcb : (coB f)) (hl : (lC f)) (hA : lwask (f (fv 15 5) 0) (lwC f)) (hday : 0 ≤ (f (fv 1 15) 0) ∧ (f (fv 1 15) 0) ≤ 9999) (hmo : mOK (lwC f) g) (k0 : (¬ (0 ≤ a ∧ a < (f (fv 1 0) 0) ∧ 0 ≤ w ∧ w ≤ 1)) → Q (some (iI (-100000))) f g) (k1 : (0 ≤ a ∧ a < (f (fv 1 0) 0) ∧ 0 ≤ w ∧ w ≤ 1) → (¬ (f 4 a) = 0) → Q (some (iI 0)) f g) (k2 : ∀ f1 : iF, ∀ g1 : iG, (0 ≤ a ∧ a < (f (fv 1 0) 0) ∧ 0 ≤ w ∧ w ≤ 1) → ((f 4 a) = 0 ∧ w = 0) → (mOK (lwC f) g1) → (f1 4 = (f 4)) → Q (some (iI (sI (fun o => if o = a then 0 else enI (aC f) (f 7) (f (fv 1 15) 0) (lwC f) (f 11) (f (fv 10 1) 0) o - enI ((aCs f) a) (f 7) (f (fv 1 15) 0) (lwC f) (f 11) (f (fv 10 1) 0) o) 8))) (mx [4, 55, 56, 57, 58, 60, 61] f f1) g1) (k3 : ∀ f1 : iF, (0 ≤ a ∧ a < (f (fv 1 0) 0) ∧ 0 ≤ w ∧ w ≤ 1) → ((f 4 a) = 0 ∧ w = 1) → Q (some (iI (cI (fun i => (aC f) (f 11 i) && decide ((f 7) (f 11 i) = a)) (f (fv 10 1) 0)))) (mx [55] f f1) g) : wq d 207 [iR 0, iI a, iI w] f g Q := by
  obtain ⟨d, rfl⟩ : ∃ e, d = e + 1 := ⟨d - 1, by omega⟩
  refine i_meth0 rfl rfl (fun O J hO => ?_)
  refine hO (k_has (by omega) (fun (hh_1 : 0 ≤ a) (hh_2 : a < (f (fv 1 0) 0)) (hh_3 : a < 8) => ?_) (fun (hh_4 : ¬ (0 ≤ a ∧ a < (f (fv 1 0) 0) ∧ a < 8)) => ?_))
  · refine ⟨fun h => absurd (show (1 : Int) = 0 from h) (by decide), fun _ => ?_⟩
    refine ⟨fun (hh_5 : w < 0) => ?_, fun (hh_5 : ¬ w < 0) => ?_⟩
    · exact k0 (by omega)
    · refine ⟨fun (hh_6 : 1 < w) => ?_, fun (hh_6 : ¬ 1 < w) => ?_⟩
      · exact k0 (by omega)
      · refine ⟨show 0 ≤ (a : Int) ∧ a < 8 from by omega, ?_⟩
        refine ⟨fun (hh_7 : f 4 a = 0) => ?_, fun (hh_7 : ¬ f 4 a = 0) => ?_⟩
        · refine ⟨fun (hh_8 : w = 0) => ?_, fun (hh_8 : ¬ w = 0) => ?_⟩
          · refine hO (k_loss (by omega) (show 0 ≤ a ∧ a < (f (fv 1 0) 0) ∧ (f (fv 1 0) 0) ≤ 8 from by omega) (show rowB (f (fv 10 1) 0) 60 (f 11) from hrw) (show (coB f) from hcb) (show (lC f) from hl) (show lwask (f (fv 15 5) 0) (lwC f) from hA) (show 0 ≤ (f (fv 1 15) 0) ∧ (f (fv 1 15) 0) ≤ 9999 from hday) (show mOK (lwC f) g from hmo) (fun f1_9 g1_10 (hh_11 : mOK (lwC f) g1_10) (hh_12 : f1_9 4 = (f 4)) => ?_))
            exact k2 f1_9 g1_10 (by omega) (by omega) (by assumption) (by assumption)
          · refine hO (k_signsOn (by omega) (show rowB (f (fv 10 1) 0) 60 (f 11) from hrw) (show (coB f) from hcb) (fun f1_13 => ?_))
            exact k3 f1_13 (by omega) (by omega)
        · exact k1 (by omega) (by omega)
  · refine ⟨fun _ => ?_, fun h => absurd (show (0 : Int) = 0 from by decide) h⟩
    exact k0 (by omega)
end C27
