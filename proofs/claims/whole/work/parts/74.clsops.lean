section C24
variable {d : Nat} {f : iF} {g : iG} {Q : Option iv → iF → iG → Prop}
/-! ===== the class: small methods ===== -/
theorem wv_id {f : iF} {c : Nat} {k : Int} : wv f c k (f c k) = f := by
  funext c' k'
  unfold wv
  by_cases h : c' = c ∧ k' = k
  · rw [if_pos h, h.1, h.2]
  · rw [if_neg h]
set_option maxRecDepth 100000 in
set_option maxHeartbeats 4000000 in
theorem k_forget (hd : 1 ≤ d) (k0 : Q none (wv (wv (wv f (fv 62 0) 0 0) (fv 72 0) 0 (-1)) (fv 76 0) 0 0) g) : wq d 215 [iR 0] f g Q := by
  obtain ⟨d, rfl⟩ : ∃ e, d = e + 1 := ⟨d - 1, by omega⟩
  refine i_meth0 rfl rfl (fun O J hO => ?_)
  refine ⟨show (0 : Int) = 0 ∨ 0 = 1 from by decide, ?_⟩
  refine ⟨show (0 : Int) = 0 ∨ 0 = 1 from by decide, ?_⟩
  exact k0
set_option maxRecDepth 100000 in
set_option maxHeartbeats 4000000 in
theorem k_changed (hd : 2 ≤ d) (k0 : Q none (wv (wv (wv (wv f (fv 48 5) 0 0) (fv 62 0) 0 0) (fv 72 0) 0 (-1)) (fv 76 0) 0 0) g) : wq d 213 [iR 0] f g Q := by
  obtain ⟨d, rfl⟩ : ∃ e, d = e + 1 := ⟨d - 1, by omega⟩
  refine i_meth0 rfl rfl (fun O J hO => ?_)
  refine hO (k_forget (by omega) ?_)
  exact k0
set_option maxRecDepth 100000 in
set_option maxHeartbeats 4000000 in
theorem k_state {v : Int} (hd : 1 ≤ d) (k0 : Q (some (iI (f (fv 1 17) 0))) (wv (wv f (fv 1 17) 0 v) (fv 48 5) 0 0) g) : wq d 186 [iR 0, iI v] f g Q := by
  obtain ⟨d, rfl⟩ : ∃ e, d = e + 1 := ⟨d - 1, by omega⟩
  refine i_meth0 rfl rfl (fun O J hO => ?_)
  exact k0
set_option maxRecDepth 100000 in
set_option maxHeartbeats 4000000 in
theorem k_apprentice {pu br : Int} (hd : 3 ≤ d) (hc : 0 ≤ (f (fv 1 0) 0) ∧ (f (fv 1 0) 0) ≤ 8) (k0 : (0 ≤ pu ∧ pu ≤ 99999 ∧ 0 ≤ br ∧ br ≤ 99 ∧ (f (fv 1 0) 0) < 8) → Q (some (iI (f (fv 1 0) 0))) (wv (wv (wv (wv (wv (wv (wv (wv (wv (wv f 2 (f (fv 1 0) 0) pu) 3 (f (fv 1 0) 0) br) 4 (f (fv 1 0) 0) 0) 5 (f (fv 1 0) 0) 0) 6 (f (fv 1 0) 0) (-1)) (fv 1 0) 0 ((f (fv 1 0) 0) + 1)) (fv 48 5) 0 0) (fv 62 0) 0 0) (fv 72 0) 0 (-1)) (fv 76 0) 0 0) g) (k1 : (¬ (0 ≤ pu ∧ pu ≤ 99999 ∧ 0 ≤ br ∧ br ≤ 99 ∧ (f (fv 1 0) 0) < 8)) → Q (some (iI (-1))) f g) : wq d 187 [iR 0, iI pu, iI br] f g Q := by
  obtain ⟨d, rfl⟩ : ∃ e, d = e + 1 := ⟨d - 1, by omega⟩
  refine i_meth0 rfl rfl (fun O J hO => ?_)
  refine ⟨fun (hh_1 : f (fv 1 0) 0 < 8) => ?_, fun (hh_1 : ¬ f (fv 1 0) 0 < 8) => ?_⟩
  · refine hO (k_within (by omega) (fun (hh_2 : 0 ≤ pu) (hh_3 : pu ≤ 99999) => ?_) (fun (hh_4 : ¬ (0 ≤ pu ∧ pu ≤ 99999)) => ?_))
    · refine ⟨fun h => absurd (show (1 : Int) = 0 from h) (by decide), fun _ => ?_⟩
      refine hO (k_within (by omega) (fun (hh_5 : 0 ≤ br) (hh_6 : br ≤ 99) => ?_) (fun (hh_7 : ¬ (0 ≤ br ∧ br ≤ 99)) => ?_))
      · refine ⟨fun h => absurd (show (1 : Int) = 0 from h) (by decide), fun _ => ?_⟩
        refine ⟨show 0 ≤ (f (fv 1 0) 0 : Int) ∧ f (fv 1 0) 0 < 8 from by omega, ?_⟩
        refine ⟨show 0 ≤ (f (fv 1 0) 0 : Int) ∧ f (fv 1 0) 0 < 8 from by omega, ?_⟩
        refine ⟨show 0 ≤ (f (fv 1 0) 0 : Int) ∧ f (fv 1 0) 0 < 8 from by omega, ?_⟩
        refine ⟨show 0 ≤ (f (fv 1 0) 0 : Int) ∧ f (fv 1 0) 0 < 8 from by omega, ?_⟩
        refine ⟨show 0 ≤ (f (fv 1 0) 0 : Int) ∧ f (fv 1 0) 0 < 8 from by omega, ?_⟩
        refine Or.inl ⟨show inr ((f (fv 1 0) 0) + 1) from by constructor <;> omega, ?_⟩
        refine hO (k_changed (by omega) ?_)
        exact k0 (by omega)
      · refine ⟨fun _ => ?_, fun h => absurd (show (0 : Int) = 0 from by decide) h⟩
        exact k1 (by omega)
    · refine ⟨fun _ => ?_, fun h => absurd (show (0 : Int) = 0 from by decide) h⟩
      exact k1 (by omega)
  · exact k1 (by omega)
set_option maxRecDepth 100000 in
set_option maxHeartbeats 4000000 in
theorem k_own {s a : Int} (hd : 3 ≤ d) (hc : 0 ≤ (f (fv 1 0) 0) ∧ (f (fv 1 0) 0) ≤ 8) (k0 : (0 ≤ s ∧ s < 29 ∧ (a = (-1) ∨ 0 ≤ a ∧ a < (f (fv 1 0) 0))) → Q (some (iI 1)) (wv (wv (wv (wv (wv f 7 s a) (fv 48 5) 0 0) (fv 62 0) 0 0) (fv 72 0) 0 (-1)) (fv 76 0) 0 0) g) (k1 : (¬ (0 ≤ s ∧ s < 29 ∧ (a = (-1) ∨ 0 ≤ a ∧ a < (f (fv 1 0) 0)))) → Q (some (iI 0)) f g) : wq d 188 [iR 0, iI s, iI a] f g Q := by
  obtain ⟨d, rfl⟩ : ∃ e, d = e + 1 := ⟨d - 1, by omega⟩
  refine i_meth0 rfl rfl (fun O J hO => ?_)
  refine hO (k_isSign (by omega) (fun (hh_1 : 0 ≤ s) (hh_2 : s < 29) => ?_) (fun (hh_3 : ¬ (0 ≤ s ∧ s < 29)) => ?_))
  · refine ⟨fun h => absurd (show (1 : Int) = 0 from h) (by decide), fun _ => ?_⟩
    refine ⟨fun (hh_4 : a = (-1)) => ?_, fun (hh_4 : ¬ a = (-1)) => ?_⟩
    · refine ⟨show 0 ≤ (s : Int) ∧ s < 29 from by omega, ?_⟩
      refine hO (k_changed (by omega) ?_)
      refine ⟨show (1 : Int) = 0 ∨ 1 = 1 from by decide, ?_⟩
      exact k0 (by omega)
    · refine hO (k_has (by omega) (fun (hh_5 : 0 ≤ a) (hh_6 : a < (f (fv 1 0) 0)) (hh_7 : a < 8) => ?_) (fun (hh_8 : ¬ (0 ≤ a ∧ a < (f (fv 1 0) 0) ∧ a < 8)) => ?_))
      · refine ⟨fun h => absurd (show (1 : Int) = 0 from h) (by decide), fun _ => ?_⟩
        refine ⟨show 0 ≤ (s : Int) ∧ s < 29 from by omega, ?_⟩
        refine hO (k_changed (by omega) ?_)
        refine ⟨show (1 : Int) = 0 ∨ 1 = 1 from by decide, ?_⟩
        exact k0 (by omega)
      · refine ⟨fun _ => ?_, fun h => absurd (show (0 : Int) = 0 from by decide) h⟩
        refine ⟨show (0 : Int) = 0 ∨ 0 = 1 from by decide, ?_⟩
        exact k1 (by omega)
  · refine ⟨fun _ => ?_, fun h => absurd (show (0 : Int) = 0 from by decide) h⟩
    refine ⟨show (0 : Int) = 0 ∨ 0 = 1 from by decide, ?_⟩
    exact k1 (by omega)
set_option maxRecDepth 100000 in
set_option maxHeartbeats 4000000 in
theorem k_putIn_8 {h v mo : Int} (hd : 2 ≤ d) (k0 : (0 ≤ h ∧ h < 29 ∧ 0 ≤ v ∧ v ≤ mo) → Q (some (iI 1)) (wv f 8 h v) g) (k1 : (¬ (0 ≤ h ∧ h < 29 ∧ 0 ≤ v ∧ v ≤ mo)) → Q (some (iI 0)) f g) : wq d 100 [iR 8, iI h, iI v, iI mo] f g Q := by
  obtain ⟨d, rfl⟩ : ∃ e, d = e + 1 := ⟨d - 1, by omega⟩
  refine i_meth0 rfl rfl (fun O J hO => ?_)
  refine ⟨fun (hh_1 : h < 0) => ?_, fun (hh_1 : ¬ h < 0) => ?_⟩
  · refine ⟨show (0 : Int) = 0 ∨ 0 = 1 from by decide, ?_⟩
    exact k1 (by omega)
  · refine ⟨fun (hh_2 : h < 29) => ?_, fun (hh_2 : ¬ h < 29) => ?_⟩
    · refine hO (k_within (by omega) (fun (hh_3 : 0 ≤ v) (hh_4 : v ≤ mo) => ?_) (fun (hh_5 : ¬ (0 ≤ v ∧ v ≤ mo)) => ?_))
      · refine ⟨fun h => absurd (show (1 : Int) = 0 from h) (by decide), fun _ => ?_⟩
        refine ⟨show 0 ≤ (h : Int) ∧ h < 29 from by omega, ?_⟩
        refine ⟨show (1 : Int) = 0 ∨ 1 = 1 from by decide, ?_⟩
        exact k0 (by omega)
      · refine ⟨fun _ => ?_, fun h => absurd (show (0 : Int) = 0 from by decide) h⟩
        refine ⟨show (0 : Int) = 0 ∨ 0 = 1 from by decide, ?_⟩
        exact k1 (by omega)
    · refine ⟨show (0 : Int) = 0 ∨ 0 = 1 from by decide, ?_⟩
      exact k1 (by omega)
set_option maxRecDepth 100000 in
set_option maxHeartbeats 4000000 in
theorem k_putIn_3 {h v mo : Int} (hd : 2 ≤ d) (k0 : (0 ≤ h ∧ h < 8 ∧ 0 ≤ v ∧ v ≤ mo) → Q (some (iI 1)) (wv f 3 h v) g) (k1 : (¬ (0 ≤ h ∧ h < 8 ∧ 0 ≤ v ∧ v ≤ mo)) → Q (some (iI 0)) f g) : wq d 100 [iR 3, iI h, iI v, iI mo] f g Q := by
  obtain ⟨d, rfl⟩ : ∃ e, d = e + 1 := ⟨d - 1, by omega⟩
  refine i_meth0 rfl rfl (fun O J hO => ?_)
  refine ⟨fun (hh_1 : h < 0) => ?_, fun (hh_1 : ¬ h < 0) => ?_⟩
  · refine ⟨show (0 : Int) = 0 ∨ 0 = 1 from by decide, ?_⟩
    exact k1 (by omega)
  · refine ⟨fun (hh_2 : h < 8) => ?_, fun (hh_2 : ¬ h < 8) => ?_⟩
    · refine hO (k_within (by omega) (fun (hh_3 : 0 ≤ v) (hh_4 : v ≤ mo) => ?_) (fun (hh_5 : ¬ (0 ≤ v ∧ v ≤ mo)) => ?_))
      · refine ⟨fun h => absurd (show (1 : Int) = 0 from h) (by decide), fun _ => ?_⟩
        refine ⟨show 0 ≤ (h : Int) ∧ h < 8 from by omega, ?_⟩
        refine ⟨show (1 : Int) = 0 ∨ 1 = 1 from by decide, ?_⟩
        exact k0 (by omega)
      · refine ⟨fun _ => ?_, fun h => absurd (show (0 : Int) = 0 from by decide) h⟩
        refine ⟨show (0 : Int) = 0 ∨ 0 = 1 from by decide, ?_⟩
        exact k1 (by omega)
    · refine ⟨show (0 : Int) = 0 ∨ 0 = 1 from by decide, ?_⟩
      exact k1 (by omega)
set_option maxRecDepth 100000 in
set_option maxHeartbeats 4000000 in
theorem k_putIn_4 {h v mo : Int} (hd : 2 ≤ d) (k0 : (0 ≤ h ∧ h < 8 ∧ 0 ≤ v ∧ v ≤ mo) → Q (some (iI 1)) (wv f 4 h v) g) (k1 : (¬ (0 ≤ h ∧ h < 8 ∧ 0 ≤ v ∧ v ≤ mo)) → Q (some (iI 0)) f g) : wq d 100 [iR 4, iI h, iI v, iI mo] f g Q := by
  obtain ⟨d, rfl⟩ : ∃ e, d = e + 1 := ⟨d - 1, by omega⟩
  refine i_meth0 rfl rfl (fun O J hO => ?_)
  refine ⟨fun (hh_1 : h < 0) => ?_, fun (hh_1 : ¬ h < 0) => ?_⟩
  · refine ⟨show (0 : Int) = 0 ∨ 0 = 1 from by decide, ?_⟩
    exact k1 (by omega)
  · refine ⟨fun (hh_2 : h < 8) => ?_, fun (hh_2 : ¬ h < 8) => ?_⟩
    · refine hO (k_within (by omega) (fun (hh_3 : 0 ≤ v) (hh_4 : v ≤ mo) => ?_) (fun (hh_5 : ¬ (0 ≤ v ∧ v ≤ mo)) => ?_))
      · refine ⟨fun h => absurd (show (1 : Int) = 0 from h) (by decide), fun _ => ?_⟩
        refine ⟨show 0 ≤ (h : Int) ∧ h < 8 from by omega, ?_⟩
        refine ⟨show (1 : Int) = 0 ∨ 1 = 1 from by decide, ?_⟩
        exact k0 (by omega)
      · refine ⟨fun _ => ?_, fun h => absurd (show (0 : Int) = 0 from by decide) h⟩
        refine ⟨show (0 : Int) = 0 ∨ 0 = 1 from by decide, ?_⟩
        exact k1 (by omega)
    · refine ⟨show (0 : Int) = 0 ∨ 0 = 1 from by decide, ?_⟩
      exact k1 (by omega)
set_option maxRecDepth 100000 in
set_option maxHeartbeats 4000000 in
theorem k_putIn_2 {h v mo : Int} (hd : 2 ≤ d) (k0 : (0 ≤ h ∧ h < 8 ∧ 0 ≤ v ∧ v ≤ mo) → Q (some (iI 1)) (wv f 2 h v) g) (k1 : (¬ (0 ≤ h ∧ h < 8 ∧ 0 ≤ v ∧ v ≤ mo)) → Q (some (iI 0)) f g) : wq d 100 [iR 2, iI h, iI v, iI mo] f g Q := by
  obtain ⟨d, rfl⟩ : ∃ e, d = e + 1 := ⟨d - 1, by omega⟩
  refine i_meth0 rfl rfl (fun O J hO => ?_)
  refine ⟨fun (hh_1 : h < 0) => ?_, fun (hh_1 : ¬ h < 0) => ?_⟩
  · refine ⟨show (0 : Int) = 0 ∨ 0 = 1 from by decide, ?_⟩
    exact k1 (by omega)
  · refine ⟨fun (hh_2 : h < 8) => ?_, fun (hh_2 : ¬ h < 8) => ?_⟩
    · refine hO (k_within (by omega) (fun (hh_3 : 0 ≤ v) (hh_4 : v ≤ mo) => ?_) (fun (hh_5 : ¬ (0 ≤ v ∧ v ≤ mo)) => ?_))
      · refine ⟨fun h => absurd (show (1 : Int) = 0 from h) (by decide), fun _ => ?_⟩
        refine ⟨show 0 ≤ (h : Int) ∧ h < 8 from by omega, ?_⟩
        refine ⟨show (1 : Int) = 0 ∨ 1 = 1 from by decide, ?_⟩
        exact k0 (by omega)
      · refine ⟨fun _ => ?_, fun h => absurd (show (0 : Int) = 0 from by decide) h⟩
        refine ⟨show (0 : Int) = 0 ∨ 0 = 1 from by decide, ?_⟩
        exact k1 (by omega)
    · refine ⟨show (0 : Int) = 0 ∨ 0 = 1 from by decide, ?_⟩
      exact k1 (by omega)
set_option maxRecDepth 100000 in
set_option maxHeartbeats 4000000 in
theorem k_putIn_6 {h v mo : Int} (hd : 2 ≤ d) (k0 : (0 ≤ h ∧ h < 8 ∧ 0 ≤ v ∧ v ≤ mo) → Q (some (iI 1)) (wv f 6 h v) g) (k1 : (¬ (0 ≤ h ∧ h < 8 ∧ 0 ≤ v ∧ v ≤ mo)) → Q (some (iI 0)) f g) : wq d 100 [iR 6, iI h, iI v, iI mo] f g Q := by
  obtain ⟨d, rfl⟩ : ∃ e, d = e + 1 := ⟨d - 1, by omega⟩
  refine i_meth0 rfl rfl (fun O J hO => ?_)
  refine ⟨fun (hh_1 : h < 0) => ?_, fun (hh_1 : ¬ h < 0) => ?_⟩
  · refine ⟨show (0 : Int) = 0 ∨ 0 = 1 from by decide, ?_⟩
    exact k1 (by omega)
  · refine ⟨fun (hh_2 : h < 8) => ?_, fun (hh_2 : ¬ h < 8) => ?_⟩
    · refine hO (k_within (by omega) (fun (hh_3 : 0 ≤ v) (hh_4 : v ≤ mo) => ?_) (fun (hh_5 : ¬ (0 ≤ v ∧ v ≤ mo)) => ?_))
      · refine ⟨fun h => absurd (show (1 : Int) = 0 from h) (by decide), fun _ => ?_⟩
        refine ⟨show 0 ≤ (h : Int) ∧ h < 8 from by omega, ?_⟩
        refine ⟨show (1 : Int) = 0 ∨ 1 = 1 from by decide, ?_⟩
        exact k0 (by omega)
      · refine ⟨fun _ => ?_, fun h => absurd (show (0 : Int) = 0 from by decide) h⟩
        refine ⟨show (0 : Int) = 0 ∨ 0 = 1 from by decide, ?_⟩
        exact k1 (by omega)
    · refine ⟨show (0 : Int) = 0 ∨ 0 = 1 from by decide, ?_⟩
      exact k1 (by omega)
set_option maxRecDepth 100000 in
set_option maxHeartbeats 4000000 in
theorem k_put {w h v : Int} (hd : 3 ≤ d) (k0 : (w = 0 ∧ 0 ≤ v ∧ v ≤ 1000) → Q (some (iI 1)) (wv f (fv 1 16) 0 v) g) (k1 : (w = 1 ∧ 0 ≤ h ∧ h < 29 ∧ 0 ≤ v ∧ v ≤ 1) → Q (some (iI 1)) (wv f 8 h v) g) (k2 : (w = 2 ∧ 0 ≤ h ∧ h < 8 ∧ 0 ≤ v ∧ v ≤ 99) → Q (some (iI 1)) (wv f 3 h v) g) (k3 : (w = 3 ∧ 0 ≤ h ∧ h < 8 ∧ 0 ≤ v ∧ v ≤ 1) → Q (some (iI 1)) (wv f 4 h v) g) (k4 : (w = 4 ∧ 0 ≤ h ∧ h < 8 ∧ 0 ≤ v ∧ v ≤ 99999) → Q (some (iI 1)) (wv f 2 h v) g) (k5 : (w = 5 ∧ 0 ≤ h ∧ h < 8 ∧ (-1) ≤ v ∧ v ≤ 99999) → Q (some (iI 1)) (wv f 6 h v) g) (k6 : (¬ ((w = 0 ∧ 0 ≤ v ∧ v ≤ 1000) ∨ (w = 1 ∧ 0 ≤ h ∧ h < 29 ∧ 0 ≤ v ∧ v ≤ 1) ∨ (w = 2 ∧ 0 ≤ h ∧ h < 8 ∧ 0 ≤ v ∧ v ≤ 99) ∨ (w = 3 ∧ 0 ≤ h ∧ h < 8 ∧ 0 ≤ v ∧ v ≤ 1) ∨ (w = 4 ∧ 0 ≤ h ∧ h < 8 ∧ 0 ≤ v ∧ v ≤ 99999) ∨ (w = 5 ∧ 0 ≤ h ∧ h < 8 ∧ (-1) ≤ v ∧ v ≤ 99999))) → Q (some (iI 0)) f g) : wq d 99 [iR 1, iI w, iI h, iI v] f g Q := by
  obtain ⟨d, rfl⟩ : ∃ e, d = e + 1 := ⟨d - 1, by omega⟩
  refine i_meth0 rfl rfl (fun O J hO => ?_)
  refine ⟨fun (hh_1 : w = 0) => ?_, fun (hh_1 : ¬ w = 0) => ?_⟩
  · refine hO (k_within (by omega) (fun (hh_2 : 0 ≤ v) (hh_3 : v ≤ 1000) => ?_) (fun (hh_4 : ¬ (0 ≤ v ∧ v ≤ 1000)) => ?_))
    · refine ⟨fun h => absurd (show (1 : Int) = 0 from h) (by decide), fun _ => ?_⟩
      refine hO (k_within (by omega) (fun (hh_5 : 0 ≤ v) (hh_6 : v ≤ 1000) => ?_) (fun (hh_7 : ¬ (0 ≤ v ∧ v ≤ 1000)) => ?_))
      · refine ⟨show (1 : Int) = 0 ∨ 1 = 1 from by decide, ?_⟩
        exact k0 (by omega)
      · refine ⟨show (0 : Int) = 0 ∨ 0 = 1 from by decide, ?_⟩
        exfalso; omega
    · refine ⟨fun _ => ?_, fun h => absurd (show (0 : Int) = 0 from by decide) h⟩
      refine hO (k_within (by omega) (fun (hh_8 : 0 ≤ v) (hh_9 : v ≤ 1000) => ?_) (fun (hh_10 : ¬ (0 ≤ v ∧ v ≤ 1000)) => ?_))
      · refine ⟨show (1 : Int) = 0 ∨ 1 = 1 from by decide, ?_⟩
        exfalso; omega
      · refine ⟨show (0 : Int) = 0 ∨ 0 = 1 from by decide, ?_⟩
        show Q (some (iI 0)) (wv f (fv 1 16) 0 (f (fv 1 16) 0)) g
        rw [wv_id]
        exact k6 (by omega)
  · refine ⟨fun (hh_11 : w = 1) => ?_, fun (hh_11 : ¬ w = 1) => ?_⟩
    · refine hO (k_putIn_8 (by omega) (fun (hh_12 : 0 ≤ h ∧ h < 29 ∧ 0 ≤ v ∧ v ≤ 1) => ?_) (fun (hh_13 : ¬ (0 ≤ h ∧ h < 29 ∧ 0 ≤ v ∧ v ≤ 1)) => ?_))
      · refine ⟨show (1 : Int) = 0 ∨ 1 = 1 from by decide, ?_⟩
        exact k1 (by omega)
      · refine ⟨show (0 : Int) = 0 ∨ 0 = 1 from by decide, ?_⟩
        exact k6 (by omega)
    · refine ⟨fun (hh_14 : w = 2) => ?_, fun (hh_14 : ¬ w = 2) => ?_⟩
      · refine hO (k_putIn_3 (by omega) (fun (hh_15 : 0 ≤ h ∧ h < 8 ∧ 0 ≤ v ∧ v ≤ 99) => ?_) (fun (hh_16 : ¬ (0 ≤ h ∧ h < 8 ∧ 0 ≤ v ∧ v ≤ 99)) => ?_))
        · refine ⟨show (1 : Int) = 0 ∨ 1 = 1 from by decide, ?_⟩
          exact k2 (by omega)
        · refine ⟨show (0 : Int) = 0 ∨ 0 = 1 from by decide, ?_⟩
          exact k6 (by omega)
      · refine ⟨fun (hh_17 : w = 3) => ?_, fun (hh_17 : ¬ w = 3) => ?_⟩
        · refine hO (k_putIn_4 (by omega) (fun (hh_18 : 0 ≤ h ∧ h < 8 ∧ 0 ≤ v ∧ v ≤ 1) => ?_) (fun (hh_19 : ¬ (0 ≤ h ∧ h < 8 ∧ 0 ≤ v ∧ v ≤ 1)) => ?_))
          · refine ⟨show (1 : Int) = 0 ∨ 1 = 1 from by decide, ?_⟩
            exact k3 (by omega)
          · refine ⟨show (0 : Int) = 0 ∨ 0 = 1 from by decide, ?_⟩
            exact k6 (by omega)
        · refine ⟨fun (hh_20 : w = 4) => ?_, fun (hh_20 : ¬ w = 4) => ?_⟩
          · refine hO (k_putIn_2 (by omega) (fun (hh_21 : 0 ≤ h ∧ h < 8 ∧ 0 ≤ v ∧ v ≤ 99999) => ?_) (fun (hh_22 : ¬ (0 ≤ h ∧ h < 8 ∧ 0 ≤ v ∧ v ≤ 99999)) => ?_))
            · refine ⟨show (1 : Int) = 0 ∨ 1 = 1 from by decide, ?_⟩
              exact k4 (by omega)
            · refine ⟨show (0 : Int) = 0 ∨ 0 = 1 from by decide, ?_⟩
              exact k6 (by omega)
          · refine ⟨fun (hh_23 : w = 5) => ?_, fun (hh_23 : ¬ w = 5) => ?_⟩
            · refine ⟨fun (hh_24 : v = (-1)) => ?_, fun (hh_24 : ¬ v = (-1)) => ?_⟩
              · refine ⟨fun (hh_25 : h < 0) => ?_, fun (hh_25 : ¬ h < 0) => ?_⟩
                · refine hO (k_putIn_6 (by omega) (fun (hh_26 : 0 ≤ h ∧ h < 8 ∧ 0 ≤ v ∧ v ≤ 99999) => ?_) (fun (hh_27 : ¬ (0 ≤ h ∧ h < 8 ∧ 0 ≤ v ∧ v ≤ 99999)) => ?_))
                  · refine ⟨show (1 : Int) = 0 ∨ 1 = 1 from by decide, ?_⟩
                    exact k5 (by omega)
                  · refine ⟨show (0 : Int) = 0 ∨ 0 = 1 from by decide, ?_⟩
                    exact k6 (by omega)
                · refine ⟨fun (hh_28 : h < 8) => ?_, fun (hh_28 : ¬ h < 8) => ?_⟩
                  · refine ⟨show 0 ≤ (h : Int) ∧ h < 8 from by omega, ?_⟩
                    refine ⟨show (1 : Int) = 0 ∨ 1 = 1 from by decide, ?_⟩
                    show Q (some (iI 1)) (wv f 6 h (-1)) g
                    have hk := k5 (by omega)
                    rw [show v = -1 by assumption] at hk
                    exact hk
                  · refine hO (k_putIn_6 (by omega) (fun (hh_29 : 0 ≤ h ∧ h < 8 ∧ 0 ≤ v ∧ v ≤ 99999) => ?_) (fun (hh_30 : ¬ (0 ≤ h ∧ h < 8 ∧ 0 ≤ v ∧ v ≤ 99999)) => ?_))
                    · refine ⟨show (1 : Int) = 0 ∨ 1 = 1 from by decide, ?_⟩
                      exact k5 (by omega)
                    · refine ⟨show (0 : Int) = 0 ∨ 0 = 1 from by decide, ?_⟩
                      exact k6 (by omega)
              · refine hO (k_putIn_6 (by omega) (fun (hh_31 : 0 ≤ h ∧ h < 8 ∧ 0 ≤ v ∧ v ≤ 99999) => ?_) (fun (hh_32 : ¬ (0 ≤ h ∧ h < 8 ∧ 0 ≤ v ∧ v ≤ 99999)) => ?_))
                · refine ⟨show (1 : Int) = 0 ∨ 1 = 1 from by decide, ?_⟩
                  exact k5 (by omega)
                · refine ⟨show (0 : Int) = 0 ∨ 0 = 1 from by decide, ?_⟩
                  exact k6 (by omega)
            · refine ⟨show (0 : Int) = 0 ∨ 0 = 1 from by decide, ?_⟩
              exact k6 (by omega)
set_option maxRecDepth 100000 in
set_option maxHeartbeats 4000000 in
theorem k_set {w h v : Int} (hd : 4 ≤ d) (hc : 0 ≤ (f (fv 1 0) 0) ∧ (f (fv 1 0) 0) ≤ 8) (k0 : (w = 0 ∧ 0 ≤ v ∧ v ≤ 1000) → Q (some (iI 1)) (wv (wv (wv (wv (wv f (fv 1 16) 0 v) (fv 48 5) 0 0) (fv 62 0) 0 0) (fv 72 0) 0 (-1)) (fv 76 0) 0 0) g) (k1 : (w = 1 ∧ 0 ≤ h ∧ h < 29 ∧ 0 ≤ v ∧ v ≤ 1) → Q (some (iI 1)) (wv (wv (wv (wv (wv f 8 h v) (fv 48 5) 0 0) (fv 62 0) 0 0) (fv 72 0) 0 (-1)) (fv 76 0) 0 0) g) (k2 : (w = 2 ∧ 0 ≤ h ∧ h < (f (fv 1 0) 0) ∧ 0 ≤ v ∧ v ≤ 99) → Q (some (iI 1)) (wv (wv (wv (wv (wv f 3 h v) (fv 48 5) 0 0) (fv 62 0) 0 0) (fv 72 0) 0 (-1)) (fv 76 0) 0 0) g) (k3 : (w = 3 ∧ 0 ≤ h ∧ h < (f (fv 1 0) 0) ∧ 0 ≤ v ∧ v ≤ 1) → Q (some (iI 1)) (wv (wv (wv (wv (wv f 4 h v) (fv 48 5) 0 0) (fv 62 0) 0 0) (fv 72 0) 0 (-1)) (fv 76 0) 0 0) g) (k4 : (w = 4 ∧ 0 ≤ h ∧ h < (f (fv 1 0) 0) ∧ 0 ≤ v ∧ v ≤ 99999) → Q (some (iI 1)) (wv (wv (wv (wv (wv f 2 h v) (fv 48 5) 0 0) (fv 62 0) 0 0) (fv 72 0) 0 (-1)) (fv 76 0) 0 0) g) (k5 : (w = 5 ∧ 0 ≤ h ∧ h < (f (fv 1 0) 0) ∧ (-1) ≤ v ∧ v ≤ 99999) → Q (some (iI 1)) (wv f 6 h v) g) (k6 : (¬ ((w = 0 ∧ 0 ≤ v ∧ v ≤ 1000) ∨ (w = 1 ∧ 0 ≤ h ∧ h < 29 ∧ 0 ≤ v ∧ v ≤ 1) ∨ (w = 2 ∧ 0 ≤ h ∧ h < (f (fv 1 0) 0) ∧ 0 ≤ v ∧ v ≤ 99) ∨ (w = 3 ∧ 0 ≤ h ∧ h < (f (fv 1 0) 0) ∧ 0 ≤ v ∧ v ≤ 1) ∨ (w = 4 ∧ 0 ≤ h ∧ h < (f (fv 1 0) 0) ∧ 0 ≤ v ∧ v ≤ 99999) ∨ (w = 5 ∧ 0 ≤ h ∧ h < (f (fv 1 0) 0) ∧ (-1) ≤ v ∧ v ≤ 99999))) → Q (some (iI 0)) f g) : wq d 189 [iR 0, iI w, iI h, iI v] f g Q := by
  obtain ⟨d, rfl⟩ : ∃ e, d = e + 1 := ⟨d - 1, by omega⟩
  refine i_meth0 rfl rfl (fun O J hO => ?_)
  refine ⟨fun (hh_1 : w = 0) => ?_, fun (hh_1 : ¬ w = 0) => ?_⟩
  · refine ⟨fun h => absurd (show (1 : Int) = 0 from h) (by decide), fun _ => ?_⟩
    refine hO (k_put (by omega) (fun (hh_2 : w = 0 ∧ 0 ≤ v ∧ v ≤ 1000) => ?_) (fun (hh_3 : w = 1 ∧ 0 ≤ h ∧ h < 29 ∧ 0 ≤ v ∧ v ≤ 1) => ?_) (fun (hh_4 : w = 2 ∧ 0 ≤ h ∧ h < 8 ∧ 0 ≤ v ∧ v ≤ 99) => ?_) (fun (hh_5 : w = 3 ∧ 0 ≤ h ∧ h < 8 ∧ 0 ≤ v ∧ v ≤ 1) => ?_) (fun (hh_6 : w = 4 ∧ 0 ≤ h ∧ h < 8 ∧ 0 ≤ v ∧ v ≤ 99999) => ?_) (fun (hh_7 : w = 5 ∧ 0 ≤ h ∧ h < 8 ∧ (-1) ≤ v ∧ v ≤ 99999) => ?_) (fun (hh_8 : ¬ ((w = 0 ∧ 0 ≤ v ∧ v ≤ 1000) ∨ (w = 1 ∧ 0 ≤ h ∧ h < 29 ∧ 0 ≤ v ∧ v ≤ 1) ∨ (w = 2 ∧ 0 ≤ h ∧ h < 8 ∧ 0 ≤ v ∧ v ≤ 99) ∨ (w = 3 ∧ 0 ≤ h ∧ h < 8 ∧ 0 ≤ v ∧ v ≤ 1) ∨ (w = 4 ∧ 0 ≤ h ∧ h < 8 ∧ 0 ≤ v ∧ v ≤ 99999) ∨ (w = 5 ∧ 0 ≤ h ∧ h < 8 ∧ (-1) ≤ v ∧ v ≤ 99999))) => ?_))
    · refine ⟨fun h => absurd (show (1 : Int) = 0 from h) (by decide), fun _ => ?_⟩
      refine ⟨fun h => absurd (show w = 5 from h) (by omega), fun _ => ?_⟩
      refine hO (k_changed (by omega) ?_)
      refine ⟨show (1 : Int) = 0 ∨ 1 = 1 from by decide, ?_⟩
      exact k0 (by omega)
    · refine ⟨fun h => absurd (show (1 : Int) = 0 from h) (by decide), fun _ => ?_⟩
      refine ⟨fun h => absurd (show w = 5 from h) (by omega), fun _ => ?_⟩
      refine hO (k_changed (by omega) ?_)
      refine ⟨show (1 : Int) = 0 ∨ 1 = 1 from by decide, ?_⟩
      exact k1 (by omega)
    · refine ⟨fun h => absurd (show (1 : Int) = 0 from h) (by decide), fun _ => ?_⟩
      refine ⟨fun h => absurd (show w = 5 from h) (by omega), fun _ => ?_⟩
      refine hO (k_changed (by omega) ?_)
      refine ⟨show (1 : Int) = 0 ∨ 1 = 1 from by decide, ?_⟩
      exact k2 (by omega)
    · refine ⟨fun h => absurd (show (1 : Int) = 0 from h) (by decide), fun _ => ?_⟩
      refine ⟨fun h => absurd (show w = 5 from h) (by omega), fun _ => ?_⟩
      refine hO (k_changed (by omega) ?_)
      refine ⟨show (1 : Int) = 0 ∨ 1 = 1 from by decide, ?_⟩
      exact k3 (by omega)
    · refine ⟨fun h => absurd (show (1 : Int) = 0 from h) (by decide), fun _ => ?_⟩
      refine ⟨fun h => absurd (show w = 5 from h) (by omega), fun _ => ?_⟩
      refine hO (k_changed (by omega) ?_)
      refine ⟨show (1 : Int) = 0 ∨ 1 = 1 from by decide, ?_⟩
      exact k4 (by omega)
    · refine ⟨fun h => absurd (show (1 : Int) = 0 from h) (by decide), fun _ => ?_⟩
      refine ⟨fun h => absurd (show w = 5 from h) (by omega), fun _ => ?_⟩
      refine hO (k_changed (by omega) ?_)
      refine ⟨show (1 : Int) = 0 ∨ 1 = 1 from by decide, ?_⟩
      exfalso; omega
    · refine ⟨fun _ => ?_, fun h => absurd (show (0 : Int) = 0 from by decide) h⟩
      refine ⟨show (0 : Int) = 0 ∨ 0 = 1 from by decide, ?_⟩
      exact k6 (by omega)
  · refine ⟨fun (hh_9 : w = 1) => ?_, fun (hh_9 : ¬ w = 1) => ?_⟩
    · refine hO (k_isSign (by omega) (fun (hh_10 : 0 ≤ h) (hh_11 : h < 29) => ?_) (fun (hh_12 : ¬ (0 ≤ h ∧ h < 29)) => ?_))
      · refine ⟨fun h => absurd (show (1 : Int) = 0 from h) (by decide), fun _ => ?_⟩
        refine ⟨fun h => absurd (show (1 : Int) = 0 from h) (by decide), fun _ => ?_⟩
        refine hO (k_put (by omega) (fun (hh_13 : w = 0 ∧ 0 ≤ v ∧ v ≤ 1000) => ?_) (fun (hh_14 : w = 1 ∧ 0 ≤ h ∧ h < 29 ∧ 0 ≤ v ∧ v ≤ 1) => ?_) (fun (hh_15 : w = 2 ∧ 0 ≤ h ∧ h < 8 ∧ 0 ≤ v ∧ v ≤ 99) => ?_) (fun (hh_16 : w = 3 ∧ 0 ≤ h ∧ h < 8 ∧ 0 ≤ v ∧ v ≤ 1) => ?_) (fun (hh_17 : w = 4 ∧ 0 ≤ h ∧ h < 8 ∧ 0 ≤ v ∧ v ≤ 99999) => ?_) (fun (hh_18 : w = 5 ∧ 0 ≤ h ∧ h < 8 ∧ (-1) ≤ v ∧ v ≤ 99999) => ?_) (fun (hh_19 : ¬ ((w = 0 ∧ 0 ≤ v ∧ v ≤ 1000) ∨ (w = 1 ∧ 0 ≤ h ∧ h < 29 ∧ 0 ≤ v ∧ v ≤ 1) ∨ (w = 2 ∧ 0 ≤ h ∧ h < 8 ∧ 0 ≤ v ∧ v ≤ 99) ∨ (w = 3 ∧ 0 ≤ h ∧ h < 8 ∧ 0 ≤ v ∧ v ≤ 1) ∨ (w = 4 ∧ 0 ≤ h ∧ h < 8 ∧ 0 ≤ v ∧ v ≤ 99999) ∨ (w = 5 ∧ 0 ≤ h ∧ h < 8 ∧ (-1) ≤ v ∧ v ≤ 99999))) => ?_))
        · refine ⟨fun h => absurd (show (1 : Int) = 0 from h) (by decide), fun _ => ?_⟩
          refine ⟨fun h => absurd (show w = 5 from h) (by omega), fun _ => ?_⟩
          refine hO (k_changed (by omega) ?_)
          refine ⟨show (1 : Int) = 0 ∨ 1 = 1 from by decide, ?_⟩
          exact k0 (by omega)
        · refine ⟨fun h => absurd (show (1 : Int) = 0 from h) (by decide), fun _ => ?_⟩
          refine ⟨fun h => absurd (show w = 5 from h) (by omega), fun _ => ?_⟩
          refine hO (k_changed (by omega) ?_)
          refine ⟨show (1 : Int) = 0 ∨ 1 = 1 from by decide, ?_⟩
          exact k1 (by omega)
        · refine ⟨fun h => absurd (show (1 : Int) = 0 from h) (by decide), fun _ => ?_⟩
          refine ⟨fun h => absurd (show w = 5 from h) (by omega), fun _ => ?_⟩
          refine hO (k_changed (by omega) ?_)
          refine ⟨show (1 : Int) = 0 ∨ 1 = 1 from by decide, ?_⟩
          exact k2 (by omega)
        · refine ⟨fun h => absurd (show (1 : Int) = 0 from h) (by decide), fun _ => ?_⟩
          refine ⟨fun h => absurd (show w = 5 from h) (by omega), fun _ => ?_⟩
          refine hO (k_changed (by omega) ?_)
          refine ⟨show (1 : Int) = 0 ∨ 1 = 1 from by decide, ?_⟩
          exact k3 (by omega)
        · refine ⟨fun h => absurd (show (1 : Int) = 0 from h) (by decide), fun _ => ?_⟩
          refine ⟨fun h => absurd (show w = 5 from h) (by omega), fun _ => ?_⟩
          refine hO (k_changed (by omega) ?_)
          refine ⟨show (1 : Int) = 0 ∨ 1 = 1 from by decide, ?_⟩
          exact k4 (by omega)
        · refine ⟨fun h => absurd (show (1 : Int) = 0 from h) (by decide), fun _ => ?_⟩
          refine ⟨fun h => absurd (show w = 5 from h) (by omega), fun _ => ?_⟩
          refine hO (k_changed (by omega) ?_)
          refine ⟨show (1 : Int) = 0 ∨ 1 = 1 from by decide, ?_⟩
          exfalso; omega
        · refine ⟨fun _ => ?_, fun h => absurd (show (0 : Int) = 0 from by decide) h⟩
          refine ⟨show (0 : Int) = 0 ∨ 0 = 1 from by decide, ?_⟩
          exact k6 (by omega)
      · refine ⟨fun _ => ?_, fun h => absurd (show (0 : Int) = 0 from by decide) h⟩
        refine ⟨fun _ => ?_, fun h => absurd (show (0 : Int) = 0 from by decide) h⟩
        refine ⟨show (0 : Int) = 0 ∨ 0 = 1 from by decide, ?_⟩
        exact k6 (by omega)
    · refine hO (k_has (by omega) (fun (hh_20 : 0 ≤ h) (hh_21 : h < (f (fv 1 0) 0)) (hh_22 : h < 8) => ?_) (fun (hh_23 : ¬ (0 ≤ h ∧ h < (f (fv 1 0) 0) ∧ h < 8)) => ?_))
      · refine ⟨fun h => absurd (show (1 : Int) = 0 from h) (by decide), fun _ => ?_⟩
        refine ⟨fun h => absurd (show (1 : Int) = 0 from h) (by decide), fun _ => ?_⟩
        refine hO (k_put (by omega) (fun (hh_24 : w = 0 ∧ 0 ≤ v ∧ v ≤ 1000) => ?_) (fun (hh_25 : w = 1 ∧ 0 ≤ h ∧ h < 29 ∧ 0 ≤ v ∧ v ≤ 1) => ?_) (fun (hh_26 : w = 2 ∧ 0 ≤ h ∧ h < 8 ∧ 0 ≤ v ∧ v ≤ 99) => ?_) (fun (hh_27 : w = 3 ∧ 0 ≤ h ∧ h < 8 ∧ 0 ≤ v ∧ v ≤ 1) => ?_) (fun (hh_28 : w = 4 ∧ 0 ≤ h ∧ h < 8 ∧ 0 ≤ v ∧ v ≤ 99999) => ?_) (fun (hh_29 : w = 5 ∧ 0 ≤ h ∧ h < 8 ∧ (-1) ≤ v ∧ v ≤ 99999) => ?_) (fun (hh_30 : ¬ ((w = 0 ∧ 0 ≤ v ∧ v ≤ 1000) ∨ (w = 1 ∧ 0 ≤ h ∧ h < 29 ∧ 0 ≤ v ∧ v ≤ 1) ∨ (w = 2 ∧ 0 ≤ h ∧ h < 8 ∧ 0 ≤ v ∧ v ≤ 99) ∨ (w = 3 ∧ 0 ≤ h ∧ h < 8 ∧ 0 ≤ v ∧ v ≤ 1) ∨ (w = 4 ∧ 0 ≤ h ∧ h < 8 ∧ 0 ≤ v ∧ v ≤ 99999) ∨ (w = 5 ∧ 0 ≤ h ∧ h < 8 ∧ (-1) ≤ v ∧ v ≤ 99999))) => ?_))
        · refine ⟨fun h => absurd (show (1 : Int) = 0 from h) (by decide), fun _ => ?_⟩
          refine ⟨fun (hh_31 : w = 5) => ?_, fun (hh_31 : ¬ w = 5) => ?_⟩
          · refine ⟨show (1 : Int) = 0 ∨ 1 = 1 from by decide, ?_⟩
            exfalso; omega
          · refine hO (k_changed (by omega) ?_)
            refine ⟨show (1 : Int) = 0 ∨ 1 = 1 from by decide, ?_⟩
            exact k0 (by omega)
        · refine ⟨fun h => absurd (show (1 : Int) = 0 from h) (by decide), fun _ => ?_⟩
          refine ⟨fun (hh_32 : w = 5) => ?_, fun (hh_32 : ¬ w = 5) => ?_⟩
          · refine ⟨show (1 : Int) = 0 ∨ 1 = 1 from by decide, ?_⟩
            exfalso; omega
          · refine hO (k_changed (by omega) ?_)
            refine ⟨show (1 : Int) = 0 ∨ 1 = 1 from by decide, ?_⟩
            exact k1 (by omega)
        · refine ⟨fun h => absurd (show (1 : Int) = 0 from h) (by decide), fun _ => ?_⟩
          refine ⟨fun (hh_33 : w = 5) => ?_, fun (hh_33 : ¬ w = 5) => ?_⟩
          · refine ⟨show (1 : Int) = 0 ∨ 1 = 1 from by decide, ?_⟩
            exfalso; omega
          · refine hO (k_changed (by omega) ?_)
            refine ⟨show (1 : Int) = 0 ∨ 1 = 1 from by decide, ?_⟩
            exact k2 (by omega)
        · refine ⟨fun h => absurd (show (1 : Int) = 0 from h) (by decide), fun _ => ?_⟩
          refine ⟨fun (hh_34 : w = 5) => ?_, fun (hh_34 : ¬ w = 5) => ?_⟩
          · refine ⟨show (1 : Int) = 0 ∨ 1 = 1 from by decide, ?_⟩
            exfalso; omega
          · refine hO (k_changed (by omega) ?_)
            refine ⟨show (1 : Int) = 0 ∨ 1 = 1 from by decide, ?_⟩
            exact k3 (by omega)
        · refine ⟨fun h => absurd (show (1 : Int) = 0 from h) (by decide), fun _ => ?_⟩
          refine ⟨fun (hh_35 : w = 5) => ?_, fun (hh_35 : ¬ w = 5) => ?_⟩
          · refine ⟨show (1 : Int) = 0 ∨ 1 = 1 from by decide, ?_⟩
            exfalso; omega
          · refine hO (k_changed (by omega) ?_)
            refine ⟨show (1 : Int) = 0 ∨ 1 = 1 from by decide, ?_⟩
            exact k4 (by omega)
        · refine ⟨fun h => absurd (show (1 : Int) = 0 from h) (by decide), fun _ => ?_⟩
          refine ⟨fun (hh_36 : w = 5) => ?_, fun (hh_36 : ¬ w = 5) => ?_⟩
          · refine ⟨show (1 : Int) = 0 ∨ 1 = 1 from by decide, ?_⟩
            exact k5 (by omega)
          · refine hO (k_changed (by omega) ?_)
            refine ⟨show (1 : Int) = 0 ∨ 1 = 1 from by decide, ?_⟩
            exfalso; omega
        · refine ⟨fun _ => ?_, fun h => absurd (show (0 : Int) = 0 from by decide) h⟩
          refine ⟨show (0 : Int) = 0 ∨ 0 = 1 from by decide, ?_⟩
          exact k6 (by omega)
      · refine ⟨fun _ => ?_, fun h => absurd (show (0 : Int) = 0 from by decide) h⟩
        refine ⟨fun _ => ?_, fun h => absurd (show (0 : Int) = 0 from by decide) h⟩
        refine ⟨show (0 : Int) = 0 ∨ 0 = 1 from by decide, ?_⟩
        exact k6 (by omega)
set_option maxRecDepth 100000 in
set_option maxHeartbeats 4000000 in
theorem k_end {n : Int} (hd : 1 ≤ d) (k0 : (0 ≤ n ∧ n ≤ (f (fv 39 1) 0)) → Q (some (iI 1)) (wv f (fv 39 1) 0 n) g) (k1 : (¬ (0 ≤ n ∧ n ≤ (f (fv 39 1) 0))) → Q (some (iI 0)) f g) : wq d 191 [iR 0, iI n] f g Q := by
  obtain ⟨d, rfl⟩ : ∃ e, d = e + 1 := ⟨d - 1, by omega⟩
  refine i_meth0 rfl rfl (fun O J hO => ?_)
  refine ⟨fun (hh_1 : n < 0) => ?_, fun (hh_1 : ¬ n < 0) => ?_⟩
  · refine ⟨show (0 : Int) = 0 ∨ 0 = 1 from by decide, ?_⟩
    exact k1 (by omega)
  · refine ⟨fun (hh_2 : f (fv 39 1) 0 < n) => ?_, fun (hh_2 : ¬ f (fv 39 1) 0 < n) => ?_⟩
    · refine ⟨show (0 : Int) = 0 ∨ 0 = 1 from by decide, ?_⟩
      exact k1 (by omega)
    · refine ⟨show (1 : Int) = 0 ∨ 1 = 1 from by decide, ?_⟩
      exact k0 (by omega)
set_option maxRecDepth 100000 in
set_option maxHeartbeats 4000000 in
theorem k_fault {w : Int} (hd : 1 ≤ d) (k0 : (w = 0) → Q (some (iI (f (fv 41 1) 0))) f g) (k1 : (w = 1) → Q (some (iI (f (fv 41 2) 0))) f g) (k2 : (¬ w = 0 ∧ ¬ w = 1) → Q (some (iI (-1))) f g) : wq d 193 [iR 0, iI w] f g Q := by
  obtain ⟨d, rfl⟩ : ∃ e, d = e + 1 := ⟨d - 1, by omega⟩
  refine i_meth0 rfl rfl (fun O J hO => ?_)
  refine ⟨fun (hh_1 : w = 0) => ?_, fun (hh_1 : ¬ w = 0) => ?_⟩
  · exact k0 (by omega)
  · refine ⟨fun (hh_2 : w = 1) => ?_, fun (hh_2 : ¬ w = 1) => ?_⟩
    · exact k1 (by omega)
    · exact k2 (by omega)
set_option maxRecDepth 100000 in
set_option maxHeartbeats 4000000 in
theorem k_clear (hd : 2 ≤ d) (k0 : Q (some (iI (f (fv 12 2) 0))) (wv (wv (wv (wv f (fv 12 2) 0 0) (fv 62 0) 0 0) (fv 72 0) 0 (-1)) (fv 76 0) 0 0) g) : wq d 196 [iR 0] f g Q := by
  obtain ⟨d, rfl⟩ : ∃ e, d = e + 1 := ⟨d - 1, by omega⟩
  refine i_meth0 rfl rfl (fun O J hO => ?_)
  refine hO (k_forget (by omega) ?_)
  exact k0
set_option maxRecDepth 100000 in
set_option maxHeartbeats 4000000 in
theorem k_signOf {s : Int} (hd : 2 ≤ d) (k0 : Q (some (iI (sgI s))) f g) : wq d 225 [iI s] f g Q := by
  obtain ⟨d, rfl⟩ : ∃ e, d = e + 1 := ⟨d - 1, by omega⟩
  refine i_meth0 rfl rfl (fun O J hO => ?_)
  refine hO (k_isSmall (by omega) (fun (hh_1 : 97 ≤ s) (hh_2 : s ≤ 122) => ?_) (fun (hh_3 : ¬ (97 ≤ s ∧ s ≤ 122)) => ?_))
  · refine ⟨fun h => absurd (show (1 : Int) = 0 from h) (by decide), fun _ => ?_⟩
    refine Or.inl ⟨show inr (s - 97) from by constructor <;> omega, ?_⟩
    rw [show sgI s = (s - 97) from by unfold sgI; (repeat (first | rw [if_pos (by omega)] | rw [if_neg (by omega)])) <;> omega] at k0
    exact k0
  · refine ⟨fun _ => ?_, fun h => absurd (show (0 : Int) = 0 from by decide) h⟩
    refine ⟨fun (hh_4 : s = 10) => ?_, fun (hh_4 : ¬ s = 10) => ?_⟩
    · rw [show sgI s = 29 from by unfold sgI; (repeat (first | rw [if_pos (by omega)] | rw [if_neg (by omega)])) <;> omega] at k0
      exact k0
    · refine ⟨fun (hh_5 : s = 32) => ?_, fun (hh_5 : ¬ s = 32) => ?_⟩
      · rw [show sgI s = 29 from by unfold sgI; (repeat (first | rw [if_pos (by omega)] | rw [if_neg (by omega)])) <;> omega] at k0
        exact k0
      · refine ⟨fun (hh_6 : s = 44) => ?_, fun (hh_6 : ¬ s = 44) => ?_⟩
        · rw [show sgI s = 26 from by unfold sgI; (repeat (first | rw [if_pos (by omega)] | rw [if_neg (by omega)])) <;> omega] at k0
          exact k0
        · refine ⟨fun (hh_7 : s = 46) => ?_, fun (hh_7 : ¬ s = 46) => ?_⟩
          · rw [show sgI s = 27 from by unfold sgI; (repeat (first | rw [if_pos (by omega)] | rw [if_neg (by omega)])) <;> omega] at k0
            exact k0
          · refine ⟨fun (hh_8 : s = 59) => ?_, fun (hh_8 : ¬ s = 59) => ?_⟩
            · rw [show sgI s = 28 from by unfold sgI; (repeat (first | rw [if_pos (by omega)] | rw [if_neg (by omega)])) <;> omega] at k0
              exact k0
            · rw [show sgI s = (-1) from by unfold sgI; (repeat (first | rw [if_pos (by omega)] | rw [if_neg (by omega)])) <;> omega] at k0
              exact k0
set_option maxRecDepth 100000 in
set_option maxHeartbeats 4000000 in
theorem k_wrong (hd : 3 ≤ d) (ht : 0 ≤ (f (fv 39 1) 0) ∧ (f (fv 39 1) 0) ≤ 400) (k0 : ∀ q : Int, (0 ≤ q ∧ q < (f (fv 39 1) 0) ∧ (60 ≤ q ∨ sgI ((f 40) q) = -1)) → (∀ j, 0 ≤ j → j < q → j < 60 ∧ ¬ sgI (f 40 j) = -1) → Q (some (iI q)) f g) (k1 : (∀ j, 0 ≤ j → j < (f (fv 39 1) 0) → j < 60 ∧ ¬ sgI (f 40 j) = -1) → Q (some (iI (-1))) f g) : wq d 216 [iR 0] f g Q := by
  obtain ⟨d, rfl⟩ : ∃ e, d = e + 1 := ⟨d - 1, by omega⟩
  refine i_meth [(2, 2)] (fun n j lv st f' g' => (j = 2 ∧ ∃ (i : Int), lv = [some (iR 0), some (iI i)] ∧ st = [] ∧ f = f' ∧ g = g' ∧ (0 ≤ i ∧ i ≤ (f (fv 39 1) 0)) ∧ (∀ j, 0 ≤ j → j < i → j < 60 ∧ ¬ sgI (f 40 j) = -1) ∧ (n : Int) = (f (fv 39 1) 0) - i)) 400 (by omega) rfl rfl (fun n j lv st f' g' hn hI O J hO hF hB => ?_) (fun hvs hin O J hO hF => ?_)
  · obtain ⟨rfl, i, rfl, rfl, rfl, rfl, hi, hz, hm⟩ := hI
    refine ⟨fun (hh_1 : i < f (fv 39 1) 0) => ?_, fun (hh_1 : ¬ i < f (fv 39 1) 0) => ?_⟩
    · refine ⟨fun (hh_2 : i < 60) => ?_, fun (hh_2 : ¬ i < 60) => ?_⟩
      · refine hO (k_get_tp (by omega) (show 0 ≤ i ∧ i < 400 from by omega) ?_)
        refine hO (k_signOf (by omega) ?_)
        refine ⟨fun (hh_3 : sgI (f 40 i) = (-1)) => ?_, fun (hh_3 : ¬ sgI (f 40 i) = (-1)) => ?_⟩
        · exact k0 i ⟨by omega, by omega, by first | exact Or.inr (by assumption) | exact Or.inl (by omega)⟩ hz
        · refine ⟨show inr (i + 1) from by constructor <;> omega, ?_⟩
          refine hB ((f (fv 39 1) 0) - (i + 1) : Int).toNat ?_ ⟨rfl, (i + 1), rfl, rfl, rfl, rfl, ?_, ?_, ?_⟩
          · omega
          · omega
          · intro j h0 h1
            by_cases e : j = i
            · rw [e]; exact ⟨by omega, by assumption⟩
            · exact hz j h0 (by omega)
          · omega
      · exact k0 i ⟨by omega, by omega, by first | exact Or.inr (by assumption) | exact Or.inl (by omega)⟩ hz
    · exact k1 (fun j h0 h1 => hz j h0 (by omega))
  · refine hF ((f (fv 39 1) 0) - 0 : Int).toNat ?_ ⟨rfl, 0, rfl, rfl, rfl, rfl, ?_, ?_, ?_⟩
    · omega
    · omega
    · intro j h0 h1; omega
    · omega
set_option maxRecDepth 100000 in
set_option maxHeartbeats 4000000 in
theorem k_page (hd : 4 ≤ d) (ht : 0 ≤ (f (fv 39 1) 0) ∧ (f (fv 39 1) 0) ≤ 400) (k0 : ∀ q : Int, (0 ≤ q ∧ q < (f (fv 39 1) 0) ∧ (60 ≤ q ∨ sgI ((f 40) q) = -1)) → (∀ j, 0 ≤ j → j < q → j < 60 ∧ ¬ sgI (f 40 j) = -1) → Q (some (iI ((-1) - q))) (wv f (fv 39 1) 0 0) g) (k1 : ∀ f1 : iF, ((f (fv 39 1) 0) ≤ 60) → (∀ j, 0 ≤ j → j < (f (fv 39 1) 0) → ¬ sgI (f 40 j) = -1) → (∀ j, 0 ≤ j → j < (f (fv 39 1) 0) → f1 11 j = sgI (f 40 j)) → (f1 (fv 10 1) 0 = (f (fv 39 1) 0) ∧ f1 (fv 39 1) 0 = 0 ∧ f1 (fv 62 0) 0 = 0 ∧ f1 (fv 72 0) 0 = (-1) ∧ f1 (fv 76 0) 0 = 0) → Q (some (iI (f (fv 39 1) 0))) (mx [11, fv 10 1, fv 39 1, fv 62 0, fv 72 0, fv 76 0] f f1) g) : wq d 194 [iR 0] f g Q := by
  obtain ⟨d, rfl⟩ : ∃ e, d = e + 1 := ⟨d - 1, by omega⟩
  refine i_meth [(13, 3)] (fun n j lv st f' g' => (j = 13 ∧ ∃ (wr : Int) (i : Int) (f1 : iF), lv = [some (iR 0), some (iI wr), some (iI i)] ∧ st = [] ∧ f' = (mx [11, fv 10 1, fv 39 1, fv 62 0, fv 72 0, fv 76 0] f f1) ∧ g = g' ∧ (wr = -1) ∧ (0 ≤ i ∧ i ≤ f (fv 39 1) 0) ∧ (f (fv 39 1) 0 ≤ 60) ∧ (∀ j, 0 ≤ j → j < f (fv 39 1) 0 → ¬ sgI (f 40 j) = -1) ∧ (f1 (fv 10 1) 0 = i) ∧ (f1 (fv 39 1) 0 = f (fv 39 1) 0) ∧ (∀ j, 0 ≤ j → j < i → f1 11 j = sgI (f 40 j)) ∧ (n : Int) = f (fv 39 1) 0 - i)) 400 (by omega) rfl rfl (fun n j lv st f' g' hn hI O J hO hF hB => ?_) (fun hvs hin O J hO hF => ?_)
  · obtain ⟨rfl, wr, i, f1, rfl, rfl, rfl, rfl, hw, hi, h60, hz, hl, h39, hy, hm⟩ := hI
    refine ⟨fun (hh_1 : i < f1 (fv 39 1) 0) => ?_, fun (hh_1 : ¬ i < f1 (fv 39 1) 0) => ?_⟩
    · refine hO (k_get_tp (by omega) (show 0 ≤ i ∧ i < 400 from by omega) ?_)
      refine hO (k_signOf (by omega) ?_)
      refine hO (k_add_pg (by omega) (show 0 ≤ (f1 (fv 10 1) 0) ∧ (f1 (fv 10 1) 0) < 60 from by omega) ?_)
      refine ⟨show inr (i + 1) from by constructor <;> omega, ?_⟩
      refine hB (f (fv 39 1) 0 - (i + 1) : Int).toNat ?_ ⟨rfl, wr, (i + 1), (wv (wv f1 11 (f1 (fv 10 1) 0) (sgI (f 40 i))) (fv 10 1) 0 ((f1 (fv 10 1) 0) + 1)), rfl, rfl, (mx_wv rfl (mx_wv rfl rfl)), rfl, ?_, ?_, ?_, ?_, ?_, ?_, ?_, ?_⟩
      · omega
      · first | exact hw | rfl
      · omega
      · exact h60
      · exact hz
      · show f1 (fv 10 1) 0 + 1 = _; omega
      · exact h39
      · intro j h0 h1
        show wv f1 11 (f1 (fv 10 1) 0) (sgI (f 40 i)) 11 j = _
        rw [wv_i]
        by_cases e : j = i
        · rw [if_pos (by omega), e]
        · rw [if_neg (by omega)]; exact hy j h0 (by omega)
      · omega
    · refine hO (k_forget (by omega) ?_)
      refine ⟨fun _ => ?_, fun h => absurd (show wr = (-1) from by omega) h⟩
      have hfi : i = f (fv 39 1) 0 := by omega
      have hk := k1 (wv (wv (wv (wv f1 (fv 62 0) 0 0) (fv 72 0) 0 (-1)) (fv 76 0) 0 0) (fv 39 1) 0 0) h60 hz (fun j h0 h1 => hy j h0 (by omega)) ⟨by show f1 (fv 10 1) 0 = _; omega, rfl, rfl, rfl, rfl⟩
      rw [← (show f1 (fv 10 1) 0 = f (fv 39 1) 0 by omega)] at hk
      rw [show mx [11, fv 10 1, fv 39 1, fv 62 0, fv 72 0, fv 76 0] f (wv (wv (wv (wv f1 (fv 62 0) 0 0) (fv 72 0) 0 (-1)) (fv 76 0) 0 0) (fv 39 1) 0 0) = (wv (wv (wv (wv (mx [11, fv 10 1, fv 39 1, fv 62 0, fv 72 0, fv 76 0] f f1) (fv 62 0) 0 0) (fv 72 0) 0 (-1)) (fv 76 0) 0 0) (fv 39 1) 0 0) from ((mx_wv rfl (mx_wv rfl (mx_wv rfl (mx_wv rfl rfl))))).symm] at hk
      exact hk
  · refine hO (k_wrong (by omega) (show 0 ≤ (f (fv 39 1) 0) ∧ (f (fv 39 1) 0) ≤ 400 from ht) (fun q_2 (hh_3 : 0 ≤ q_2 ∧ q_2 < (f (fv 39 1) 0) ∧ (60 ≤ q_2 ∨ sgI ((f 40) q_2) = -1)) (hh_4 : ∀ j, 0 ≤ j → j < q_2 → j < 60 ∧ ¬ sgI (f 40 j) = -1) => ?_) (fun (hh_5 : ∀ j, 0 ≤ j → j < (f (fv 39 1) 0) → j < 60 ∧ ¬ sgI (f 40 j) = -1) => ?_))
    · have hq0 := hh_3
      have hq1 := hh_4
      refine ⟨fun h => absurd (show q_2 = (-1) from h) (by omega), fun _ => ?_⟩
      refine ⟨fun h => absurd (show q_2 = (-1) from h) (by omega), fun _ => ?_⟩
      refine Or.inl ⟨show inr ((-1) - q_2) from by constructor <;> omega, ?_⟩
      exact k0 q_2 hq0 hq1
    · have hwz := hh_5
      refine ⟨fun _ => ?_, fun h => absurd (show ((-1) : Int) = (-1) from by decide) h⟩
      refine hF (f (fv 39 1) 0 - 0 : Int).toNat ?_ ⟨rfl, (-1), 0, (wv f (fv 10 1) 0 0), rfl, rfl, (mx_wv rfl mx_rf), rfl, ?_, ?_, ?_, ?_, ?_, ?_, ?_, ?_⟩
      · omega
      · first | exact hw | rfl
      · omega
      · by_cases e : f (fv 39 1) 0 ≤ 60
        · exact e
        · have := (hwz 60 (by omega) (by omega)).1; omega
      · exact fun j h0 h1 => (hwz j h0 h1).2
      · rfl
      · rfl
      · intro j h0 h1; omega
      · omega
end C24
