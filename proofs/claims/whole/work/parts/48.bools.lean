section C1
variable {d : Nat} {f : iF} {g : iG} {Q : Option iv → iF → iG → Prop}
set_option maxRecDepth 100000 in
set_option maxHeartbeats 4000000 in
theorem c_isIn {v lo hi : Int} (hd : 1 ≤ d) (h1 : lo ≤ v → v ≤ hi → Q (some (iI 1)) f g) (h0 : ¬ (lo ≤ v ∧ v ≤ hi) → Q (some (iI 0)) f g) : wq d 1 [iR 79, iI v, iI lo, iI hi] f g Q := by
  obtain ⟨d, rfl⟩ : ∃ e, d = e + 1 := ⟨d - 1, by omega⟩
  refine i_meth0 rfl rfl (fun O J hO => ?_)
  refine ⟨fun (hh1 : v < lo) => ?_, fun (hh1 : ¬ v < lo) => ?_⟩
  · refine ⟨show 0 = 0 ∨ 0 = 1 from by decide, ?_⟩
    exact h0 (by omega)
  · refine ⟨fun (hh2 : hi < v) => ?_, fun (hh2 : ¬ hi < v) => ?_⟩
    · refine ⟨show 0 = 0 ∨ 0 = 1 from by decide, ?_⟩
      exact h0 (by omega)
    · refine ⟨show 1 = 0 ∨ 1 = 1 from by decide, ?_⟩
      exact h1 (by omega) (by omega)
set_option maxRecDepth 100000 in
set_option maxHeartbeats 4000000 in
theorem c_isAppr {a : Int} (hd : 1 ≤ d) (h1 : 0 ≤ a → a < f (fv 79 4) 0 → Q (some (iI 1)) f g) (h0 : ¬ (0 ≤ a ∧ a < f (fv 79 4) 0) → Q (some (iI 0)) f g) : wq d 6 [iR 79, iI a] f g Q := by
  obtain ⟨d, rfl⟩ : ∃ e, d = e + 1 := ⟨d - 1, by omega⟩
  refine i_meth0 rfl rfl (fun O J hO => ?_)
  refine ⟨fun (hh1 : a < 0) => ?_, fun (hh1 : ¬ a < 0) => ?_⟩
  · refine ⟨show 0 = 0 ∨ 0 = 1 from by decide, ?_⟩
    exact h0 (by omega)
  · refine ⟨fun (hh2 : a < f (fv 79 4) 0) => ?_, fun (hh2 : ¬ a < f (fv 79 4) 0) => ?_⟩
    · refine ⟨show 1 = 0 ∨ 1 = 1 from by decide, ?_⟩
      exact h1 (by omega) (by omega)
    · refine ⟨show 0 = 0 ∨ 0 = 1 from by decide, ?_⟩
      exact h0 (by omega)
set_option maxRecDepth 100000 in
set_option maxHeartbeats 4000000 in
theorem c_isOneOf {s : Int} (hd : 1 ≤ d) (h1 : 0 ≤ s → s < 29 → Q (some (iI 1)) f g) (h0 : ¬ (0 ≤ s ∧ s < 29) → Q (some (iI 0)) f g) : wq d 7 [iR 79, iI s] f g Q := by
  obtain ⟨d, rfl⟩ : ∃ e, d = e + 1 := ⟨d - 1, by omega⟩
  refine i_meth0 rfl rfl (fun O J hO => ?_)
  refine ⟨fun (hh1 : s < 0) => ?_, fun (hh1 : ¬ s < 0) => ?_⟩
  · refine ⟨show 0 = 0 ∨ 0 = 1 from by decide, ?_⟩
    exact h0 (by omega)
  · refine ⟨fun (hh2 : s < 29) => ?_, fun (hh2 : ¬ s < 29) => ?_⟩
    · refine ⟨show 1 = 0 ∨ 1 = 1 from by decide, ?_⟩
      exact h1 (by omega) (by omega)
    · refine ⟨show 0 = 0 ∨ 0 = 1 from by decide, ?_⟩
      exact h0 (by omega)
set_option maxRecDepth 100000 in
set_option maxHeartbeats 4000000 in
theorem c_isDigit {c : Int} (hd : 2 ≤ d) (h1 : 48 ≤ c → c ≤ 57 → Q (some (iI 1)) f g) (h0 : ¬ (48 ≤ c ∧ c ≤ 57) → Q (some (iI 0)) f g) : wq d 24 [iR 79, iI c] f g Q := by
  obtain ⟨d, rfl⟩ : ∃ e, d = e + 1 := ⟨d - 1, by omega⟩
  refine i_meth0 rfl rfl (fun O J hO => ?_)
  refine hO (c_isIn (by omega) (fun (hh1 : 48 ≤ c) (hh2 : c ≤ 57) => ?_) (fun (hh3 : ¬ (48 ≤ c ∧ c ≤ 57)) => ?_))
  · refine ⟨show 1 = 0 ∨ 1 = 1 from by decide, ?_⟩
    exact h1 (by omega) (by omega)
  · refine ⟨show 0 = 0 ∨ 0 = 1 from by decide, ?_⟩
    exact h0 (by omega)
set_option maxRecDepth 100000 in
set_option maxHeartbeats 4000000 in
theorem c_isLetter {c : Int} (hd : 2 ≤ d) (h1 : (97 ≤ c ∧ c ≤ 122 ∨ 65 ≤ c ∧ c ≤ 90) → Q (some (iI 1)) f g) (h0 : ¬ ((97 ≤ c ∧ c ≤ 122 ∨ 65 ≤ c ∧ c ≤ 90)) → Q (some (iI 0)) f g) : wq d 23 [iR 79, iI c] f g Q := by
  obtain ⟨d, rfl⟩ : ∃ e, d = e + 1 := ⟨d - 1, by omega⟩
  refine i_meth0 rfl rfl (fun O J hO => ?_)
  refine hO (c_isIn (by omega) (fun (hh1 : 97 ≤ c) (hh2 : c ≤ 122) => ?_) (fun (hh3 : ¬ (97 ≤ c ∧ c ≤ 122)) => ?_))
  · refine ⟨fun h => absurd (show (1 : Int) = 0 from h) (by decide), fun _ => ?_⟩
    refine ⟨show 1 = 0 ∨ 1 = 1 from by decide, ?_⟩
    exact h1 (by omega)
  · refine ⟨fun _ => ?_, fun h => absurd (show (0 : Int) = 0 from by decide) h⟩
    refine hO (c_isIn (by omega) (fun (hh4 : 65 ≤ c) (hh5 : c ≤ 90) => ?_) (fun (hh6 : ¬ (65 ≤ c ∧ c ≤ 90)) => ?_))
    · refine ⟨fun h => absurd (show (1 : Int) = 0 from h) (by decide), fun _ => ?_⟩
      refine ⟨show 1 = 0 ∨ 1 = 1 from by decide, ?_⟩
      exact h1 (by omega)
    · refine ⟨fun _ => ?_, fun h => absurd (show (0 : Int) = 0 from by decide) h⟩
      refine ⟨show 0 = 0 ∨ 0 = 1 from by decide, ?_⟩
      exact h0 (by omega)
set_option maxRecDepth 100000 in
set_option maxHeartbeats 4000000 in
theorem c_isMark {c : Int} (hd : 1 ≤ d) (h1 : (c = 59 ∨ c = 43 ∨ c = 45 ∨ c = 42 ∨ c = 47 ∨ c = 40 ∨ c = 41 ∨ c = 60 ∨ c = 61 ∨ c = 62) → Q (some (iI 1)) f g) (h0 : ¬ ((c = 59 ∨ c = 43 ∨ c = 45 ∨ c = 42 ∨ c = 47 ∨ c = 40 ∨ c = 41 ∨ c = 60 ∨ c = 61 ∨ c = 62)) → Q (some (iI 0)) f g) : wq d 25 [iR 79, iI c] f g Q := by
  obtain ⟨d, rfl⟩ : ∃ e, d = e + 1 := ⟨d - 1, by omega⟩
  refine i_meth0 rfl rfl (fun O J hO => ?_)
  refine ⟨fun (hh1 : c = 59) => ?_, fun (hh1 : ¬ c = 59) => ?_⟩
  · refine ⟨show 1 = 0 ∨ 1 = 1 from by decide, ?_⟩
    exact h1 (by omega)
  · refine ⟨fun (hh2 : c = 43) => ?_, fun (hh2 : ¬ c = 43) => ?_⟩
    · refine ⟨show 1 = 0 ∨ 1 = 1 from by decide, ?_⟩
      exact h1 (by omega)
    · refine ⟨fun (hh3 : c = 45) => ?_, fun (hh3 : ¬ c = 45) => ?_⟩
      · refine ⟨show 1 = 0 ∨ 1 = 1 from by decide, ?_⟩
        exact h1 (by omega)
      · refine ⟨fun (hh4 : c = 42) => ?_, fun (hh4 : ¬ c = 42) => ?_⟩
        · refine ⟨show 1 = 0 ∨ 1 = 1 from by decide, ?_⟩
          exact h1 (by omega)
        · refine ⟨fun (hh5 : c = 47) => ?_, fun (hh5 : ¬ c = 47) => ?_⟩
          · refine ⟨show 1 = 0 ∨ 1 = 1 from by decide, ?_⟩
            exact h1 (by omega)
          · refine ⟨fun (hh6 : c = 40) => ?_, fun (hh6 : ¬ c = 40) => ?_⟩
            · refine ⟨show 1 = 0 ∨ 1 = 1 from by decide, ?_⟩
              exact h1 (by omega)
            · refine ⟨fun (hh7 : c = 41) => ?_, fun (hh7 : ¬ c = 41) => ?_⟩
              · refine ⟨show 1 = 0 ∨ 1 = 1 from by decide, ?_⟩
                exact h1 (by omega)
              · refine ⟨fun (hh8 : c = 60) => ?_, fun (hh8 : ¬ c = 60) => ?_⟩
                · refine ⟨show 1 = 0 ∨ 1 = 1 from by decide, ?_⟩
                  exact h1 (by omega)
                · refine ⟨fun (hh9 : c = 61) => ?_, fun (hh9 : ¬ c = 61) => ?_⟩
                  · refine ⟨show 1 = 0 ∨ 1 = 1 from by decide, ?_⟩
                    exact h1 (by omega)
                  · refine ⟨fun (hh10 : c = 62) => ?_, fun (hh10 : ¬ c = 62) => ?_⟩
                    · refine ⟨show 1 = 0 ∨ 1 = 1 from by decide, ?_⟩
                      exact h1 (by omega)
                    · refine ⟨show 0 = 0 ∨ 0 = 1 from by decide, ?_⟩
                      exact h0 (by omega)
set_option maxRecDepth 100000 in
set_option maxHeartbeats 4000000 in
theorem c_isVowel {s : Int} (hd : 1 ≤ d) (h1 : (s = 0 ∨ s = 4 ∨ s = 8 ∨ s = 14 ∨ s = 20) → Q (some (iI 1)) f g) (h0 : ¬ ((s = 0 ∨ s = 4 ∨ s = 8 ∨ s = 14 ∨ s = 20)) → Q (some (iI 0)) f g) : wq d 48 [iR 79, iI s] f g Q := by
  obtain ⟨d, rfl⟩ : ∃ e, d = e + 1 := ⟨d - 1, by omega⟩
  refine i_meth0 rfl rfl (fun O J hO => ?_)
  refine ⟨fun (hh1 : s = 0) => ?_, fun (hh1 : ¬ s = 0) => ?_⟩
  · refine ⟨show 1 = 0 ∨ 1 = 1 from by decide, ?_⟩
    exact h1 (by omega)
  · refine ⟨fun (hh2 : s = 4) => ?_, fun (hh2 : ¬ s = 4) => ?_⟩
    · refine ⟨show 1 = 0 ∨ 1 = 1 from by decide, ?_⟩
      exact h1 (by omega)
    · refine ⟨fun (hh3 : s = 8) => ?_, fun (hh3 : ¬ s = 8) => ?_⟩
      · refine ⟨show 1 = 0 ∨ 1 = 1 from by decide, ?_⟩
        exact h1 (by omega)
      · refine ⟨fun (hh4 : s = 14) => ?_, fun (hh4 : ¬ s = 14) => ?_⟩
        · refine ⟨show 1 = 0 ∨ 1 = 1 from by decide, ?_⟩
          exact h1 (by omega)
        · refine ⟨fun (hh5 : s = 20) => ?_, fun (hh5 : ¬ s = 20) => ?_⟩
          · refine ⟨show 1 = 0 ∨ 1 = 1 from by decide, ?_⟩
            exact h1 (by omega)
          · refine ⟨show 0 = 0 ∨ 0 = 1 from by decide, ?_⟩
            exact h0 (by omega)
set_option maxRecDepth 100000 in
set_option maxHeartbeats 4000000 in
theorem c_isWord {v : Int} (hd : 1 ≤ d) (h1 : f (fv 79 24) 0 = 2 → f (fv 79 25) 0 = v → Q (some (iI 1)) f g) (h0 : ¬ (f (fv 79 24) 0 = 2 ∧ f (fv 79 25) 0 = v) → Q (some (iI 0)) f g) : wq d 29 [iR 79, iI v] f g Q := by
  obtain ⟨d, rfl⟩ : ∃ e, d = e + 1 := ⟨d - 1, by omega⟩
  refine i_meth0 rfl rfl (fun O J hO => ?_)
  refine ⟨fun (hh1 : f (fv 79 24) 0 = 2) => ?_, fun (hh1 : ¬ f (fv 79 24) 0 = 2) => ?_⟩
  · refine ⟨fun (hh2 : f (fv 79 25) 0 = v) => ?_, fun (hh2 : ¬ f (fv 79 25) 0 = v) => ?_⟩
    · refine ⟨show 1 = 0 ∨ 1 = 1 from by decide, ?_⟩
      exact h1 (by omega) (by omega)
    · refine ⟨show 0 = 0 ∨ 0 = 1 from by decide, ?_⟩
      exact h0 (by omega)
  · refine ⟨show 0 = 0 ∨ 0 = 1 from by decide, ?_⟩
    exact h0 (by omega)
set_option maxRecDepth 100000 in
set_option maxHeartbeats 4000000 in
theorem c_isSign {v : Int} (hd : 1 ≤ d) (h1 : f (fv 79 24) 0 = 4 → f (fv 79 25) 0 = v → Q (some (iI 1)) f g) (h0 : ¬ (f (fv 79 24) 0 = 4 ∧ f (fv 79 25) 0 = v) → Q (some (iI 0)) f g) : wq d 30 [iR 79, iI v] f g Q := by
  obtain ⟨d, rfl⟩ : ∃ e, d = e + 1 := ⟨d - 1, by omega⟩
  refine i_meth0 rfl rfl (fun O J hO => ?_)
  refine ⟨fun (hh1 : f (fv 79 24) 0 = 4) => ?_, fun (hh1 : ¬ f (fv 79 24) 0 = 4) => ?_⟩
  · refine ⟨fun (hh2 : f (fv 79 25) 0 = v) => ?_, fun (hh2 : ¬ f (fv 79 25) 0 = v) => ?_⟩
    · refine ⟨show 1 = 0 ∨ 1 = 1 from by decide, ?_⟩
      exact h1 (by omega) (by omega)
    · refine ⟨show 0 = 0 ∨ 0 = 1 from by decide, ?_⟩
      exact h0 (by omega)
  · refine ⟨show 0 = 0 ∨ 0 = 1 from by decide, ?_⟩
    exact h0 (by omega)
set_option maxRecDepth 100000 in
set_option maxHeartbeats 4000000 in
theorem k_within {v hi : Int} (hd : 1 ≤ d) (h1 : 0 ≤ v → v ≤ hi → Q (some (iI 1)) f g) (h0 : ¬ (0 ≤ v ∧ v ≤ hi) → Q (some (iI 0)) f g) : wq d 218 [iI v, iI hi] f g Q := by
  obtain ⟨d, rfl⟩ : ∃ e, d = e + 1 := ⟨d - 1, by omega⟩
  refine i_meth0 rfl rfl (fun O J hO => ?_)
  refine ⟨fun (hh1 : v < 0) => ?_, fun (hh1 : ¬ v < 0) => ?_⟩
  · refine ⟨show 0 = 0 ∨ 0 = 1 from by decide, ?_⟩
    exact h0 (by omega)
  · refine ⟨fun (hh2 : hi < v) => ?_, fun (hh2 : ¬ hi < v) => ?_⟩
    · refine ⟨show 0 = 0 ∨ 0 = 1 from by decide, ?_⟩
      exact h0 (by omega)
    · refine ⟨show 1 = 0 ∨ 1 = 1 from by decide, ?_⟩
      exact h1 (by omega) (by omega)
set_option maxRecDepth 100000 in
set_option maxHeartbeats 4000000 in
theorem k_isSign {s : Int} (hd : 1 ≤ d) (h1 : 0 ≤ s → s < 29 → Q (some (iI 1)) f g) (h0 : ¬ (0 ≤ s ∧ s < 29) → Q (some (iI 0)) f g) : wq d 219 [iI s] f g Q := by
  obtain ⟨d, rfl⟩ : ∃ e, d = e + 1 := ⟨d - 1, by omega⟩
  refine i_meth0 rfl rfl (fun O J hO => ?_)
  refine ⟨fun (hh1 : s < 0) => ?_, fun (hh1 : ¬ s < 0) => ?_⟩
  · refine ⟨show 0 = 0 ∨ 0 = 1 from by decide, ?_⟩
    exact h0 (by omega)
  · refine ⟨fun (hh2 : s < 29) => ?_, fun (hh2 : ¬ s < 29) => ?_⟩
    · refine ⟨show 1 = 0 ∨ 1 = 1 from by decide, ?_⟩
      exact h1 (by omega) (by omega)
    · refine ⟨show 0 = 0 ∨ 0 = 1 from by decide, ?_⟩
      exact h0 (by omega)
set_option maxRecDepth 100000 in
set_option maxHeartbeats 4000000 in
theorem k_isLetter {s : Int} (hd : 1 ≤ d) (h1 : 0 ≤ s → s < 26 → Q (some (iI 1)) f g) (h0 : ¬ (0 ≤ s ∧ s < 26) → Q (some (iI 0)) f g) : wq d 220 [iI s] f g Q := by
  obtain ⟨d, rfl⟩ : ∃ e, d = e + 1 := ⟨d - 1, by omega⟩
  refine i_meth0 rfl rfl (fun O J hO => ?_)
  refine ⟨fun (hh1 : s < 0) => ?_, fun (hh1 : ¬ s < 0) => ?_⟩
  · refine ⟨show 0 = 0 ∨ 0 = 1 from by decide, ?_⟩
    exact h0 (by omega)
  · refine ⟨fun (hh2 : s < 26) => ?_, fun (hh2 : ¬ s < 26) => ?_⟩
    · refine ⟨show 1 = 0 ∨ 1 = 1 from by decide, ?_⟩
      exact h1 (by omega) (by omega)
    · refine ⟨show 0 = 0 ∨ 0 = 1 from by decide, ?_⟩
      exact h0 (by omega)
set_option maxRecDepth 100000 in
set_option maxHeartbeats 4000000 in
theorem k_isSmall {s : Int} (hd : 1 ≤ d) (h1 : 97 ≤ s → s ≤ 122 → Q (some (iI 1)) f g) (h0 : ¬ (97 ≤ s ∧ s ≤ 122) → Q (some (iI 0)) f g) : wq d 221 [iI s] f g Q := by
  obtain ⟨d, rfl⟩ : ∃ e, d = e + 1 := ⟨d - 1, by omega⟩
  refine i_meth0 rfl rfl (fun O J hO => ?_)
  refine ⟨fun (hh1 : s < 97) => ?_, fun (hh1 : ¬ s < 97) => ?_⟩
  · refine ⟨show 0 = 0 ∨ 0 = 1 from by decide, ?_⟩
    exact h0 (by omega)
  · refine ⟨fun (hh2 : 122 < s) => ?_, fun (hh2 : ¬ 122 < s) => ?_⟩
    · refine ⟨show 0 = 0 ∨ 0 = 1 from by decide, ?_⟩
      exact h0 (by omega)
    · refine ⟨show 1 = 0 ∨ 1 = 1 from by decide, ?_⟩
      exact h1 (by omega) (by omega)
set_option maxRecDepth 100000 in
set_option maxHeartbeats 4000000 in
theorem k_isLetTx {s : Int} (hd : 2 ≤ d) (h1 : (97 ≤ s ∧ s ≤ 122 ∨ 65 ≤ s ∧ s ≤ 90) → Q (some (iI 1)) f g) (h0 : ¬ ((97 ≤ s ∧ s ≤ 122 ∨ 65 ≤ s ∧ s ≤ 90)) → Q (some (iI 0)) f g) : wq d 222 [iI s] f g Q := by
  obtain ⟨d, rfl⟩ : ∃ e, d = e + 1 := ⟨d - 1, by omega⟩
  refine i_meth0 rfl rfl (fun O J hO => ?_)
  refine hO (k_isSmall (by omega) (fun (hh1 : 97 ≤ s) (hh2 : s ≤ 122) => ?_) (fun (hh3 : ¬ (97 ≤ s ∧ s ≤ 122)) => ?_))
  · refine ⟨fun h => absurd (show (1 : Int) = 0 from h) (by decide), fun _ => ?_⟩
    refine ⟨show 1 = 0 ∨ 1 = 1 from by decide, ?_⟩
    exact h1 (by omega)
  · refine ⟨fun _ => ?_, fun h => absurd (show (0 : Int) = 0 from by decide) h⟩
    refine ⟨fun (hh4 : s < 65) => ?_, fun (hh4 : ¬ s < 65) => ?_⟩
    · refine ⟨show 0 = 0 ∨ 0 = 1 from by decide, ?_⟩
      exact h0 (by omega)
    · refine ⟨fun (hh5 : 90 < s) => ?_, fun (hh5 : ¬ 90 < s) => ?_⟩
      · refine ⟨show 0 = 0 ∨ 0 = 1 from by decide, ?_⟩
        exact h0 (by omega)
      · refine ⟨show 1 = 0 ∨ 1 = 1 from by decide, ?_⟩
        exact h1 (by omega)
set_option maxRecDepth 100000 in
set_option maxHeartbeats 4000000 in
theorem k_isDigit {s : Int} (hd : 1 ≤ d) (h1 : 48 ≤ s → s ≤ 57 → Q (some (iI 1)) f g) (h0 : ¬ (48 ≤ s ∧ s ≤ 57) → Q (some (iI 0)) f g) : wq d 223 [iI s] f g Q := by
  obtain ⟨d, rfl⟩ : ∃ e, d = e + 1 := ⟨d - 1, by omega⟩
  refine i_meth0 rfl rfl (fun O J hO => ?_)
  refine ⟨fun (hh1 : s < 48) => ?_, fun (hh1 : ¬ s < 48) => ?_⟩
  · refine ⟨show 0 = 0 ∨ 0 = 1 from by decide, ?_⟩
    exact h0 (by omega)
  · refine ⟨fun (hh2 : 57 < s) => ?_, fun (hh2 : ¬ 57 < s) => ?_⟩
    · refine ⟨show 0 = 0 ∨ 0 = 1 from by decide, ?_⟩
      exact h0 (by omega)
    · refine ⟨show 1 = 0 ∨ 1 = 1 from by decide, ?_⟩
      exact h1 (by omega) (by omega)
set_option maxRecDepth 100000 in
set_option maxHeartbeats 4000000 in
theorem k_isBlank {s : Int} (hd : 1 ≤ d) (h1 : (s = 32 ∨ s = 10) → Q (some (iI 1)) f g) (h0 : ¬ ((s = 32 ∨ s = 10)) → Q (some (iI 0)) f g) : wq d 224 [iI s] f g Q := by
  obtain ⟨d, rfl⟩ : ∃ e, d = e + 1 := ⟨d - 1, by omega⟩
  refine i_meth0 rfl rfl (fun O J hO => ?_)
  refine ⟨fun (hh1 : s = 32) => ?_, fun (hh1 : ¬ s = 32) => ?_⟩
  · refine ⟨show 1 = 0 ∨ 1 = 1 from by decide, ?_⟩
    exact h1 (by omega)
  · refine ⟨fun (hh2 : s = 10) => ?_, fun (hh2 : ¬ s = 10) => ?_⟩
    · refine ⟨show 1 = 0 ∨ 1 = 1 from by decide, ?_⟩
      exact h1 (by omega)
    · refine ⟨show 0 = 0 ∨ 0 = 1 from by decide, ?_⟩
      exact h0 (by omega)
set_option maxRecDepth 100000 in
set_option maxHeartbeats 4000000 in
theorem k_isVowel {s : Int} (hd : 1 ≤ d) (h1 : (s = 0 ∨ s = 4 ∨ s = 8 ∨ s = 14 ∨ s = 20) → Q (some (iI 1)) f g) (h0 : ¬ ((s = 0 ∨ s = 4 ∨ s = 8 ∨ s = 14 ∨ s = 20)) → Q (some (iI 0)) f g) : wq d 149 [iI s] f g Q := by
  obtain ⟨d, rfl⟩ : ∃ e, d = e + 1 := ⟨d - 1, by omega⟩
  refine i_meth0 rfl rfl (fun O J hO => ?_)
  refine ⟨fun (hh1 : s = 0) => ?_, fun (hh1 : ¬ s = 0) => ?_⟩
  · refine ⟨show 1 = 0 ∨ 1 = 1 from by decide, ?_⟩
    exact h1 (by omega)
  · refine ⟨fun (hh2 : s = 4) => ?_, fun (hh2 : ¬ s = 4) => ?_⟩
    · refine ⟨show 1 = 0 ∨ 1 = 1 from by decide, ?_⟩
      exact h1 (by omega)
    · refine ⟨fun (hh3 : s = 8) => ?_, fun (hh3 : ¬ s = 8) => ?_⟩
      · refine ⟨show 1 = 0 ∨ 1 = 1 from by decide, ?_⟩
        exact h1 (by omega)
      · refine ⟨fun (hh4 : s = 14) => ?_, fun (hh4 : ¬ s = 14) => ?_⟩
        · refine ⟨show 1 = 0 ∨ 1 = 1 from by decide, ?_⟩
          exact h1 (by omega)
        · refine ⟨fun (hh5 : s = 20) => ?_, fun (hh5 : ¬ s = 20) => ?_⟩
          · refine ⟨show 1 = 0 ∨ 1 = 1 from by decide, ?_⟩
            exact h1 (by omega)
          · refine ⟨show 0 = 0 ∨ 0 = 1 from by decide, ?_⟩
            exact h0 (by omega)
set_option maxRecDepth 100000 in
set_option maxHeartbeats 4000000 in
theorem k_has {a : Int} (hd : 1 ≤ d) (h1 : 0 ≤ a → a < f (fv 1 0) 0 → a < 8 → Q (some (iI 1)) f g) (h0 : ¬ (0 ≤ a ∧ a < f (fv 1 0) 0 ∧ a < 8) → Q (some (iI 0)) f g) : wq d 98 [iR 1, iI a] f g Q := by
  obtain ⟨d, rfl⟩ : ∃ e, d = e + 1 := ⟨d - 1, by omega⟩
  refine i_meth0 rfl rfl (fun O J hO => ?_)
  refine ⟨fun (hh1 : a < 0) => ?_, fun (hh1 : ¬ a < 0) => ?_⟩
  · refine ⟨show 0 = 0 ∨ 0 = 1 from by decide, ?_⟩
    exact h0 (by omega)
  · refine ⟨fun (hh2 : a < f (fv 1 0) 0) => ?_, fun (hh2 : ¬ a < f (fv 1 0) 0) => ?_⟩
    · refine ⟨fun (hh3 : a < 8) => ?_, fun (hh3 : ¬ a < 8) => ?_⟩
      · refine ⟨show 1 = 0 ∨ 1 = 1 from by decide, ?_⟩
        exact h1 (by omega) (by omega) (by omega)
      · refine ⟨show 0 = 0 ∨ 0 = 1 from by decide, ?_⟩
        exact h0 (by omega)
    · refine ⟨show 0 = 0 ∨ 0 = 1 from by decide, ?_⟩
      exact h0 (by omega)
end C1
