section C12
variable {d : Nat} {f : iF} {g : iG} {Q : Option iv → iF → iG → Prop}
/-! ===== the reference: more methods ===== -/
def byt (v z : Int) : Int := b_and (b_shr v z) 255
def fdB (a b c d e q : Int) : Int := byt (if q < 4 then a else if q < 8 then b else if q < 12 then c else if q < 16 then d else e) (24 - 8 * (q % 4))
set_option maxRecDepth 100000 in
set_option maxHeartbeats 4000000 in
theorem c_page (hd : 2 ≤ d) (ht : 0 ≤ (f (fv 79 21) 0) ∧ (f (fv 79 21) 0) ≤ 400) (k0 : ∀ q : Int, (0 ≤ q ∧ q < (f (fv 79 21) 0) ∧ (q = 60 ∨ sgI (f 92 q) = -1)) → (∀ j, 0 ≤ j → j < q → ¬ j = 60 ∧ ¬ sgI (f 92 j) = -1) → Q (some (iI ((-1) - q))) (wv (wv f (fv 79 0) 0 0) (fv 79 21) 0 0) g) (k1 : ∀ f1 : iF, ((f (fv 79 21) 0) ≤ 60) → (∀ j, 0 ≤ j → j < (f (fv 79 21) 0) → ¬ sgI (f 92 j) = -1) → (f1 (fv 79 21) 0 = 0 ∧ f1 (fv 79 13) 0 = (f (fv 79 21) 0)) → (∀ j, 0 ≤ j → j < (f (fv 79 21) 0) → f1 88 j = sgI (f 92 j)) → Q (some (iI (f (fv 79 21) 0))) (mx [88, fv 79 0, fv 79 21, fv 79 13] f f1) g) : wq d 15 [iR 79] f g Q := by
  obtain ⟨d, rfl⟩ : ∃ e, d = e + 1 := ⟨d - 1, by omega⟩
  refine i_meth [(11, 3), (33, 3)] (fun n j lv st f' g' => (j = 11 ∧ ∃ (nn : Int) (i : Int) (f1 : iF), lv = [some (iR 79), some (iI nn), some (iI i)] ∧ st = [] ∧ f' = (mx [88, fv 79 0, fv 79 21, fv 79 13] f f1) ∧ g = g' ∧ (nn = f (fv 79 21) 0) ∧ (0 ≤ i ∧ i ≤ nn ∧ i ≤ 60) ∧ (∀ j, 0 ≤ j → j < i → ¬ j = 60 ∧ ¬ sgI (f 92 j) = -1) ∧ (mx [88, fv 79 0, fv 79 21, fv 79 13] f f1 = wv (wv f (fv 79 0) 0 0) (fv 79 21) 0 0) ∧ (n : Int) = 900 - i) ∨ (j = 33 ∧ ∃ (nn : Int) (i : Int) (f1 : iF), lv = [some (iR 79), some (iI nn), some (iI i)] ∧ st = [] ∧ f' = (mx [88, fv 79 0, fv 79 21, fv 79 13] f f1) ∧ g = g' ∧ (nn = f (fv 79 21) 0) ∧ (0 ≤ i ∧ i ≤ nn ∧ nn ≤ 60) ∧ (∀ j, 0 ≤ j → j < nn → ¬ sgI (f 92 j) = -1) ∧ (f1 (fv 79 21) 0 = 0) ∧ (∀ j, 0 ≤ j → j < i → f1 88 j = sgI (f 92 j)) ∧ (n : Int) = 400 - i)) 900 (by omega) rfl rfl (fun n j lv st f' g' hn hI O J hO hF hB => ?_) (fun hvs hin O J hO hF => ?_)
  · rcases hI with hI | hI
    · obtain ⟨rfl, nn, i, f1, rfl, rfl, rfl, rfl, hn, hi, hz, hst, hm⟩ := hI
      refine ⟨fun (hh_1 : i < nn) => ?_, fun (hh_1 : ¬ i < nn) => ?_⟩
      · refine ⟨fun (hh_2 : i = 60) => ?_, fun (hh_2 : ¬ i = 60) => ?_⟩
        · refine Or.inl ⟨show inr ((-1) - i) from by constructor <;> omega, ?_⟩
          have hk := k0 i ⟨by omega, by omega, by first | exact Or.inl (by assumption) | exact Or.inr (by assumption)⟩ hz
          rw [← hst] at hk
          exact hk
        · refine ⟨show 0 ≤ (i : Int) ∧ i < 400 from by omega, ?_⟩
          refine hO (c_signOf (by omega) ?_)
          refine ⟨fun (hh_3 : sgI (f 92 i) = (-1)) => ?_, fun (hh_3 : ¬ sgI (f 92 i) = (-1)) => ?_⟩
          · refine Or.inl ⟨show inr ((-1) - i) from by constructor <;> omega, ?_⟩
            have hk := k0 i ⟨by omega, by omega, by first | exact Or.inl (by assumption) | exact Or.inr (by assumption)⟩ hz
            rw [← hst] at hk
            exact hk
          · refine ⟨show inr (i + 1) from by constructor <;> omega, ?_⟩
            refine hB (900 - (i + 1) : Int).toNat ?_ (Or.inl ⟨rfl, nn, (i + 1), f1, rfl, rfl, rfl, rfl, ?_, ?_, ?_, ?_, ?_⟩)
            · omega
            · omega
            · omega
            · intro j h0 h1
              by_cases e : j = i
              · rw [e]; exact ⟨by omega, by assumption⟩
              · exact hz j h0 (by omega)
            · exact hst
            · omega
      · refine hF (400 - 0 : Int).toNat ?_ (Or.inr (⟨rfl, nn, 0, f1, rfl, rfl, rfl, rfl, ?_, ?_, ?_, ?_, ?_, ?_⟩))
        · omega
        · omega
        · omega
        · intro j h0 h1
          exact (hz j h0 (by omega)).2
        · exact congrFun (congrFun hst (fv 79 21)) 0
        · intro j h0 h1; omega
        · omega
    · obtain ⟨rfl, nn, i, f1, rfl, rfl, rfl, rfl, hn, hi, hz, hst, hy, hm⟩ := hI
      refine ⟨fun (hh_4 : i < nn) => ?_, fun (hh_4 : ¬ i < nn) => ?_⟩
      · refine ⟨show 0 ≤ (i : Int) ∧ i < 400 from by omega, ?_⟩
        refine hO (c_signOf (by omega) ?_)
        refine ⟨show 0 ≤ (i : Int) ∧ i < 60 from by omega, ?_⟩
        refine ⟨show inr (i + 1) from by constructor <;> omega, ?_⟩
        refine hB (400 - (i + 1) : Int).toNat ?_ (Or.inr (⟨rfl, nn, (i + 1), (wv f1 88 i (sgI (f 92 i))), rfl, rfl, (mx_wv rfl rfl), rfl, ?_, ?_, ?_, ?_, ?_, ?_⟩))
        · omega
        · omega
        · omega
        · exact hz
        · exact hst
        · intro j h0 h1
          rw [wv_i]
          by_cases e : j = i
          · rw [if_pos e, e]
          · rw [if_neg e]; exact hy j h0 (by omega)
        · omega
      · rw [← hn] at k1
        have hk := k1 (wv f1 (fv 79 13) 0 nn) (by omega) (by intro j h0 h1; exact hz j h0 (by omega)) ⟨hst, rfl⟩ (by intro j h0 h1; exact hy j h0 (by omega))
        rw [show mx [88, fv 79 0, fv 79 21, fv 79 13] f (wv f1 (fv 79 13) 0 nn) = (wv (mx [88, fv 79 0, fv 79 21, fv 79 13] f f1) (fv 79 13) 0 nn) from ((mx_wv rfl rfl)).symm] at hk
        exact hk
  · refine hF (900 - 0 : Int).toNat ?_ (Or.inl ⟨rfl, f (fv 79 21) 0, 0, (wv (wv f (fv 79 0) 0 0) (fv 79 21) 0 0), rfl, rfl, (mx_wv rfl (mx_wv rfl mx_rf)), rfl, ?_, ?_, ?_, ?_, ?_⟩)
    · omega
    · rfl
    · omega
    · intro j h0 h1; omega
    · exact (mx_wv rfl (mx_wv rfl mx_rf)).symm
    · omega
set_option maxRecDepth 100000 in
set_option maxHeartbeats 4000000 in
theorem c_end {n : Int} (hd : 2 ≤ d) (k0 : (0 ≤ n ∧ n ≤ (f (fv 79 21) 0)) → Q (some (iI 1)) (wv (wv f (fv 79 0) 0 0) (fv 79 21) 0 n) g) (k1 : (¬ (0 ≤ n ∧ n ≤ (f (fv 79 21) 0))) → Q (some (iI 0)) (wv f (fv 79 0) 0 0) g) : wq d 21 [iR 79, iI n] f g Q := by
  obtain ⟨d, rfl⟩ : ∃ e, d = e + 1 := ⟨d - 1, by omega⟩
  refine i_meth0 rfl rfl (fun O J hO => ?_)
  refine hO (c_isIn (by omega) (fun (hh_1 : 0 ≤ n) (hh_2 : n ≤ (f (fv 79 21) 0)) => ?_) (fun (hh_3 : ¬ (0 ≤ n ∧ n ≤ (f (fv 79 21) 0))) => ?_))
  · refine ⟨fun h => absurd (show (1 : Int) = 0 from h) (by decide), fun _ => ?_⟩
    refine ⟨show (1 : Int) = 0 ∨ 1 = 1 from by decide, ?_⟩
    exact k0 (by omega)
  · refine ⟨fun _ => ?_, fun h => absurd (show (0 : Int) = 0 from by decide) h⟩
    refine ⟨show (0 : Int) = 0 ∨ 0 = 1 from by decide, ?_⟩
    exact k1 (by omega)
set_option maxRecDepth 100000 in
set_option maxHeartbeats 4000000 in
theorem c_clear (hd : 1 ≤ d) (k0 : Q (some (iI (f (fv 79 17) 0))) (wv (wv f (fv 79 0) 0 0) (fv 79 17) 0 0) g) : wq d 17 [iR 79] f g Q := by
  obtain ⟨d, rfl⟩ : ∃ e, d = e + 1 := ⟨d - 1, by omega⟩
  refine i_meth0 rfl rfl (fun O J hO => ?_)
  exact k0
set_option maxRecDepth 100000 in
set_option maxHeartbeats 4000000 in
theorem c_fault {w : Int} (hd : 1 ≤ d) (k0 : (w = 0) → Q (some (iI (f (fv 79 39) 0))) (wv f (fv 79 0) 0 0) g) (k1 : (w = 1) → Q (some (iI (f (fv 79 40) 0))) (wv f (fv 79 0) 0 0) g) (k2 : (¬ w = 0 ∧ ¬ w = 1) → Q (some (iI (-1))) (wv f (fv 79 0) 0 0) g) : wq d 41 [iR 79, iI w] f g Q := by
  obtain ⟨d, rfl⟩ : ∃ e, d = e + 1 := ⟨d - 1, by omega⟩
  refine i_meth0 rfl rfl (fun O J hO => ?_)
  refine ⟨fun (hh_1 : w = 0) => ?_, fun (hh_1 : ¬ w = 0) => ?_⟩
  · exact k0 (by omega)
  · refine ⟨fun (hh_2 : w = 1) => ?_, fun (hh_2 : ¬ w = 1) => ?_⟩
    · exact k1 (by omega)
    · exact k2 (by omega)
set_option maxRecDepth 100000 in
set_option maxHeartbeats 4000000 in
theorem c_at {i : Int} (hd : 2 ≤ d) (hg : 0 ≤ (f (fv 79 13) 0) ∧ (f (fv 79 13) 0) ≤ 60) (k0 : (0 ≤ i ∧ i < (f (fv 79 13) 0)) → Q (some (iI (f 88 i))) (wv f (fv 79 0) 0 0) g) (k1 : (¬ (0 ≤ i ∧ i < (f (fv 79 13) 0))) → Q (some (iI (-1))) (wv f (fv 79 0) 0 0) g) : wq d 60 [iR 79, iI i] f g Q := by
  obtain ⟨d, rfl⟩ : ∃ e, d = e + 1 := ⟨d - 1, by omega⟩
  refine i_meth0 rfl rfl (fun O J hO => ?_)
  refine Or.inl ⟨show inr ((f (fv 79 13) 0) - 1) from by constructor <;> omega, ?_⟩
  refine hO (c_isIn (by omega) (fun (hh_1 : 0 ≤ i) (hh_2 : i ≤ ((f (fv 79 13) 0) - 1)) => ?_) (fun (hh_3 : ¬ (0 ≤ i ∧ i ≤ ((f (fv 79 13) 0) - 1))) => ?_))
  · refine ⟨fun h => absurd (show (1 : Int) = 0 from h) (by decide), fun _ => ?_⟩
    refine ⟨show 0 ≤ (i : Int) ∧ i < 60 from by omega, ?_⟩
    exact k0 (by omega)
  · refine ⟨fun _ => ?_, fun h => absurd (show (0 : Int) = 0 from by decide) h⟩
    exact k1 (by omega)
set_option maxRecDepth 100000 in
set_option maxHeartbeats 4000000 in
theorem c_sign {s w : Int} (hd : 2 ≤ d) (ho : (oB f)) (k0 : (0 ≤ s ∧ s < 29 ∧ w = 0) → Q (some (iI ((f 86 s) - 1))) (wv f (fv 79 0) 0 0) g) (k1 : (0 ≤ s ∧ s < 29 ∧ w = 1) → Q (some (iI (f 87 s))) (wv f (fv 79 0) 0 0) g) (k2 : (0 ≤ s ∧ s < 29 ∧ w = 2) → Q (some (iI (f 80 (8 + s)))) (wv f (fv 79 0) 0 0) g) (k3 : (¬ (0 ≤ s ∧ s < 29 ∧ 0 ≤ w ∧ w ≤ 2)) → Q (some (iI (-2))) (wv f (fv 79 0) 0 0) g) : wq d 59 [iR 79, iI s, iI w] f g Q := by
  obtain ⟨d, rfl⟩ : ∃ e, d = e + 1 := ⟨d - 1, by omega⟩
  refine i_meth0 rfl rfl (fun O J hO => ?_)
  refine hO (c_isOneOf (by omega) (fun (hh_1 : 0 ≤ s) (hh_2 : s < 29) => ?_) (fun (hh_3 : ¬ (0 ≤ s ∧ s < 29)) => ?_))
  · refine ⟨fun h => absurd (show (1 : Int) = 0 from h) (by decide), fun _ => ?_⟩
    refine hO (c_isIn (by omega) (fun (hh_4 : 0 ≤ w) (hh_5 : w ≤ 2) => ?_) (fun (hh_6 : ¬ (0 ≤ w ∧ w ≤ 2)) => ?_))
    · refine ⟨fun h => absurd (show (1 : Int) = 0 from h) (by decide), fun _ => ?_⟩
      refine ⟨fun (hh_7 : w = 0) => ?_, fun (hh_7 : ¬ w = 0) => ?_⟩
      · refine hO (c_ownerOf (by omega) (show 0 ≤ s from by omega) (show s < 29 from by omega) (show (oB f) from ho) ?_)
        exact k0 (by omega)
      · refine ⟨fun (hh_8 : w = 1) => ?_, fun (hh_8 : ¬ w = 1) => ?_⟩
        · refine ⟨show 0 ≤ (s : Int) ∧ s < 29 from by omega, ?_⟩
          exact k1 (by omega)
        · refine Or.inl ⟨show inr (8 + s) from by constructor <;> omega, ?_⟩
          refine ⟨show 0 ≤ ((8 + s) : Int) ∧ (8 + s) < 40 from by omega, ?_⟩
          exact k2 (by omega)
    · refine ⟨fun _ => ?_, fun h => absurd (show (0 : Int) = 0 from by decide) h⟩
      exact k3 (by omega)
  · refine ⟨fun _ => ?_, fun h => absurd (show (0 : Int) = 0 from by decide) h⟩
    exact k3 (by omega)
set_option maxRecDepth 100000 in
set_option maxHeartbeats 4000000 in
theorem c_look {w : Int} (hd : 1 ≤ d) (k0 : (w = 0) → Q (some (iI (f (fv 79 4) 0))) (wv f (fv 79 0) 0 0) g) (k1 : (w = 1) → Q (some (iI (f (fv 79 13) 0))) (wv f (fv 79 0) 0 0) g) (k2 : (w = 2) → Q (some (iI (f (fv 79 17) 0))) (wv f (fv 79 0) 0 0) g) (k3 : (w = 3) → Q (some (iI (f 80 37))) (wv f (fv 79 0) 0 0) g) (k4 : (w = 4) → Q (some (iI (f 80 38))) (wv f (fv 79 0) 0 0) g) (k5 : (w = 5) → Q (some (iI (f (fv 79 12) 0))) (wv f (fv 79 0) 0 0) g) (k6 : (w = 6) → Q (some (iI (f (fv 79 11) 0))) (wv f (fv 79 0) 0 0) g) (k7 : (w = 7) → Q (some (iI (f (fv 79 27) 0))) (wv f (fv 79 0) 0 0) g) (k8 : (w = 8) → Q (some (iI (f (fv 79 3) 0))) (wv f (fv 79 0) 0 0) g) (k9 : (w = 9) → Q (some (iI (f 80 39))) (wv f (fv 79 0) 0 0) g) (k10 : (¬ (0 ≤ w ∧ w ≤ 9)) → Q (some (iI (-1))) (wv f (fv 79 0) 0 0) g) : wq d 84 [iR 79, iI w] f g Q := by
  obtain ⟨d, rfl⟩ : ∃ e, d = e + 1 := ⟨d - 1, by omega⟩
  refine i_meth0 rfl rfl (fun O J hO => ?_)
  refine ⟨fun (hh_1 : w = 0) => ?_, fun (hh_1 : ¬ w = 0) => ?_⟩
  · exact k0 (by omega)
  · refine ⟨fun (hh_2 : w = 1) => ?_, fun (hh_2 : ¬ w = 1) => ?_⟩
    · exact k1 (by omega)
    · refine ⟨fun (hh_3 : w = 2) => ?_, fun (hh_3 : ¬ w = 2) => ?_⟩
      · exact k2 (by omega)
      · refine ⟨fun (hh_4 : w = 3) => ?_, fun (hh_4 : ¬ w = 3) => ?_⟩
        · refine ⟨show 0 ≤ (37 : Int) ∧ 37 < 40 from by decide, ?_⟩
          exact k3 (by omega)
        · refine ⟨fun (hh_5 : w = 4) => ?_, fun (hh_5 : ¬ w = 4) => ?_⟩
          · refine ⟨show 0 ≤ (38 : Int) ∧ 38 < 40 from by decide, ?_⟩
            exact k4 (by omega)
          · refine ⟨fun (hh_6 : w = 5) => ?_, fun (hh_6 : ¬ w = 5) => ?_⟩
            · exact k5 (by omega)
            · refine ⟨fun (hh_7 : w = 6) => ?_, fun (hh_7 : ¬ w = 6) => ?_⟩
              · exact k6 (by omega)
              · refine ⟨fun (hh_8 : w = 7) => ?_, fun (hh_8 : ¬ w = 7) => ?_⟩
                · exact k7 (by omega)
                · refine ⟨fun (hh_9 : w = 8) => ?_, fun (hh_9 : ¬ w = 8) => ?_⟩
                  · exact k8 (by omega)
                  · refine ⟨fun (hh_10 : w = 9) => ?_, fun (hh_10 : ¬ w = 9) => ?_⟩
                    · refine ⟨show 0 ≤ (39 : Int) ∧ 39 < 40 from by decide, ?_⟩
                      exact k9 (by omega)
                    · exact k10 (by omega)
set_option maxRecDepth 100000 in
set_option maxHeartbeats 4000000 in
theorem c_roll {i w : Int} (hd : 2 ≤ d) (hr : 0 ≤ (f 80 37) ∧ (f 80 37) ≤ 200) (k0 : (0 ≤ i ∧ i < (f 80 37) ∧ 0 ≤ w ∧ w ≤ 4) → Q (some (iI (f 103 (5 * i + w)))) (wv f (fv 79 0) 0 0) g) (k1 : (¬ (0 ≤ i ∧ i < (f 80 37) ∧ 0 ≤ w ∧ w ≤ 4)) → Q (some (iI (-1))) (wv f (fv 79 0) 0 0) g) : wq d 62 [iR 79, iI i, iI w] f g Q := by
  obtain ⟨d, rfl⟩ : ∃ e, d = e + 1 := ⟨d - 1, by omega⟩
  refine i_meth0 rfl rfl (fun O J hO => ?_)
  refine ⟨show 0 ≤ (37 : Int) ∧ 37 < 40 from by decide, ?_⟩
  refine Or.inl ⟨show inr ((f 80 37) - 1) from by constructor <;> omega, ?_⟩
  refine hO (c_isIn (by omega) (fun (hh_1 : 0 ≤ i) (hh_2 : i ≤ ((f 80 37) - 1)) => ?_) (fun (hh_3 : ¬ (0 ≤ i ∧ i ≤ ((f 80 37) - 1))) => ?_))
  · refine ⟨fun h => absurd (show (1 : Int) = 0 from h) (by decide), fun _ => ?_⟩
    refine hO (c_isIn (by omega) (fun (hh_4 : 0 ≤ w) (hh_5 : w ≤ 4) => ?_) (fun (hh_6 : ¬ (0 ≤ w ∧ w ≤ 4)) => ?_))
    · refine ⟨fun h => absurd (show (1 : Int) = 0 from h) (by decide), fun _ => ?_⟩
      refine Or.inl ⟨show inr (5 * i) from by constructor <;> omega, ?_⟩
      refine Or.inl ⟨show inr ((5 * i) + w) from by constructor <;> omega, ?_⟩
      refine ⟨show 0 ≤ (((5 * i) + w) : Int) ∧ ((5 * i) + w) < 1000 from by omega, ?_⟩
      exact k0 (by omega)
    · refine ⟨fun _ => ?_, fun h => absurd (show (0 : Int) = 0 from by decide) h⟩
      exact k1 (by omega)
  · refine ⟨fun _ => ?_, fun h => absurd (show (0 : Int) = 0 from by decide) h⟩
    exact k1 (by omega)
set_option maxRecDepth 100000 in
set_option maxHeartbeats 4000000 in
theorem c_signsOf {a : Int} (hd : 2 ≤ d) (ho : (oB f)) (k0 : Q (some (iI (cI (fun s => decide ((f 86 s) - 1 = a)) 29))) f g) : wq d 56 [iR 79, iI a] f g Q := by
  obtain ⟨d, rfl⟩ : ∃ e, d = e + 1 := ⟨d - 1, by omega⟩
  refine i_meth [(4, 4)] (fun n j lv st f' g' => (j = 4 ∧ ∃ (c : Int) (k : Int), lv = [some (iR 79), some (iI a), some (iI c), some (iI k)] ∧ st = [] ∧ f = f' ∧ g = g' ∧ (0 ≤ k ∧ k ≤ 29 ∧ 0 ≤ c ∧ c ≤ k) ∧ (c = cI (fun s => decide ((f 86 s) - 1 = a)) k) ∧ (n : Int) = 29 - k)) 29 (by omega) rfl rfl (fun n j lv st f' g' hn hI O J hO hF hB => ?_) (fun hvs hin O J hO hF => ?_)
  · obtain ⟨rfl, c, k, rfl, rfl, rfl, rfl, hk, hc, hm⟩ := hI
    refine ⟨fun (hh_1 : k < 29) => ?_, fun (hh_1 : ¬ k < 29) => ?_⟩
    · refine hO (c_ownerOf (by omega) (show 0 ≤ k from by omega) (show k < 29 from by omega) (show (oB f) from ho) ?_)
      refine ⟨fun (hh_2 : (f 86 k) - 1 = a) => ?_, fun (hh_2 : ¬ (f 86 k) - 1 = a) => ?_⟩
      · refine Or.inl ⟨show inr (c + 1) from by constructor <;> omega, ?_⟩
        refine ⟨show inr (k + 1) from by constructor <;> omega, ?_⟩
        refine hB (29 - (k + 1) : Int).toNat ?_ ⟨rfl, (c + 1), (k + 1), rfl, rfl, rfl, rfl, ?_, ?_, ?_⟩
        · omega
        · omega
        · first | (rw [cI_t (by omega) (decide_eq_true ‹_ = _›)]; omega) | (rw [cI_f (by omega) (decide_eq_false ‹_›)]; omega)
        · omega
      · refine ⟨show inr (k + 1) from by constructor <;> omega, ?_⟩
        refine hB (29 - (k + 1) : Int).toNat ?_ ⟨rfl, c, (k + 1), rfl, rfl, rfl, rfl, ?_, ?_, ?_⟩
        · omega
        · omega
        · first | (rw [cI_t (by omega) (decide_eq_true ‹_ = _›)]; omega) | (rw [cI_f (by omega) (decide_eq_false ‹_›)]; omega)
        · omega
    · rw [show k = 29 by omega] at hc
      rw [← hc] at k0
      exact k0
  · refine hF (29 - 0 : Int).toNat ?_ ⟨rfl, 0, 0, rfl, rfl, rfl, rfl, ?_, ?_, ?_⟩
    · omega
    · omega
    · rfl
    · omega
set_option maxRecDepth 100000 in
set_option maxHeartbeats 4000000 in
theorem c_day (hd : 1 ≤ d) (hc : 0 ≤ (f (fv 79 4) 0) ∧ (f (fv 79 4) 0) ≤ 8) (hd1 : 0 ≤ (f (fv 79 12) 0) ∧ (f (fv 79 12) 0) ≤ 9999) (hp : ∀ a, 0 ≤ a → a < 8 → 0 ≤ (f 80 a) ∧ (f 80 a) ≤ 99999 ∧ 0 ≤ (f 82 a) ∧ (f 82 a) ≤ 99) (k0 : ((f (fv 79 12) 0) = 9999) → Q (some (iI (-1))) (wv f (fv 79 0) 0 0) g) (k1 : ∀ f1 : iF, (¬ (f (fv 79 12) 0) = 9999) → (∀ a, 0 ≤ a → a < (f (fv 79 4) 0) → f1 80 a = (if (f 82 a) ≤ (f 80 a) then (f 80 a) - (f 82 a) else (f 80 a))) → (∀ a, 0 ≤ a → a < (f (fv 79 4) 0) → f1 84 a = (if (f 82 a) ≤ (f 80 a) then (f 84 a) else w32 ((f 84 a) + 1))) → ((∀ k, (f (fv 79 4) 0) ≤ k → f1 80 k = (f 80 k)) ∧ ∀ k, (f (fv 79 4) 0) ≤ k → f1 84 k = (f 84 k)) → (f1 (fv 79 12) 0 = (f (fv 79 12) 0) + 1 ∧ f1 (fv 79 3) 0 = 0) → Q (some (iI (cI (fun a => decide ((f 80 a) < (f 82 a))) (f (fv 79 4) 0)))) (mx [80, 84, fv 79 0, fv 79 12, fv 79 3] f f1) g) : wq d 55 [iR 79] f g Q := by
  obtain ⟨d, rfl⟩ : ∃ e, d = e + 1 := ⟨d - 1, by omega⟩
  refine i_meth [(13, 3)] (fun n j lv st f' g' => (j = 13 ∧ ∃ (c : Int) (a : Int) (f1 : iF), lv = [some (iR 79), some (iI c), some (iI a)] ∧ st = [] ∧ f' = (mx [80, 84, fv 79 0, fv 79 12, fv 79 3] f f1) ∧ g = g' ∧ (0 ≤ a ∧ a ≤ f (fv 79 4) 0 ∧ 0 ≤ c ∧ c ≤ a) ∧ (f1 (fv 79 12) 0 = f (fv 79 12) 0 ∧ ¬ f (fv 79 12) 0 = 9999) ∧ (c = cI (fun a => decide (f 80 a < f 82 a)) a) ∧ (∀ k, 0 ≤ k → k < a → f1 80 k = (if f 82 k ≤ f 80 k then f 80 k - f 82 k else f 80 k)) ∧ (∀ k, 0 ≤ k → k < a → f1 84 k = (if f 82 k ≤ f 80 k then f 84 k else w32 (f 84 k + 1))) ∧ ((∀ k, a ≤ k → f1 80 k = f 80 k) ∧ ∀ k, a ≤ k → f1 84 k = f 84 k) ∧ (n : Int) = f (fv 79 4) 0 - a)) 8 (by omega) rfl rfl (fun n j lv st f' g' hn hI O J hO hF hB => ?_) (fun hvs hin O J hO hF => ?_)
  · obtain ⟨rfl, c, a, f1, rfl, rfl, rfl, rfl, ha, hn, hcc, h80, h84, hr, hm⟩ := hI
    have hr80 := hr.1 a (by omega)
    have hr84 := hr.2 a (by omega)
    refine ⟨fun (hh_1 : a < f (fv 79 4) 0) => ?_, fun (hh_1 : ¬ a < f (fv 79 4) 0) => ?_⟩
    · have hpa := hp a (by omega) (by omega)
      refine Or.inl ⟨show inr (0 + a) from by constructor <;> omega, ?_⟩
      refine ⟨show 0 ≤ ((0 + a) : Int) ∧ (0 + a) < 40 from by omega, ?_⟩
      refine ⟨show 0 ≤ (a : Int) ∧ a < 8 from by omega, ?_⟩
      refine ⟨fun (hh_2 : f1 80 (0 + a) < f 82 a) => ?_, fun (hh_2 : ¬ f1 80 (0 + a) < f 82 a) => ?_⟩
      · rw [show 0 + a = a by omega, hr80] at hh_2
        refine ⟨show 0 ≤ (a : Int) ∧ a < 8 from by omega, ?_⟩
        refine Or.inr ?_
        refine ⟨show 0 ≤ (a : Int) ∧ a < 8 from by omega, ?_⟩
        refine Or.inl ⟨show inr (c + 1) from by constructor <;> omega, ?_⟩
        refine ⟨show inr (a + 1) from by constructor <;> omega, ?_⟩
        refine hB (f (fv 79 4) 0 - (a + 1) : Int).toNat ?_ ⟨rfl, (c + 1), (a + 1), (wv f1 84 a (w32 ((f1 84 a) + 1))), rfl, rfl, (mx_wv rfl rfl), rfl, ?_, ?_, ?_, ?_, ?_, ?_, ?_⟩
        · omega
        · omega
        · exact hn
        · first | (rw [cI_t (by omega) (decide_eq_true (by omega))]; omega) | (rw [cI_f (by omega) (decide_eq_false (by omega))]; omega)
        · intro k h0 h1
          by_cases e : k = a
          · rw [e, if_neg (by omega)]; exact hr80
          · exact h80 k h0 (by omega)
        · intro k h0 h1
          rw [wv_i]
          by_cases e : k = a
          · rw [if_pos e, e, if_neg (by omega), hr84]
          · rw [if_neg e]; exact h84 k h0 (by omega)
        · exact ⟨fun k h0 => hr.1 k (by omega), fun k h0 => by rw [wv_k (by omega)]; exact hr.2 k (by omega)⟩
        · omega
      · rw [show 0 + a = a by omega, hr80] at hh_2
        refine Or.inl ⟨show inr (0 + a) from by constructor <;> omega, ?_⟩
        refine Or.inl ⟨show inr (0 + a) from by constructor <;> omega, ?_⟩
        refine ⟨show 0 ≤ ((0 + a) : Int) ∧ (0 + a) < 40 from by omega, ?_⟩
        refine ⟨show 0 ≤ (a : Int) ∧ a < 8 from by omega, ?_⟩
        refine Or.inl ⟨show inr ((f1 80 (0 + a)) - (f 82 a)) from by constructor <;> (rw [show 0 + a = a by omega, hr80]; omega), ?_⟩
        refine ⟨show 0 ≤ ((0 + a) : Int) ∧ (0 + a) < 40 from by omega, ?_⟩
        refine ⟨show inr (a + 1) from by constructor <;> omega, ?_⟩
        refine hB (f (fv 79 4) 0 - (a + 1) : Int).toNat ?_ ⟨rfl, c, (a + 1), (wv f1 80 (0 + a) ((f1 80 (0 + a)) - (f 82 a))), rfl, rfl, (mx_wv rfl rfl), rfl, ?_, ?_, ?_, ?_, ?_, ?_, ?_⟩
        · omega
        · omega
        · exact hn
        · first | (rw [cI_t (by omega) (decide_eq_true (by omega))]; omega) | (rw [cI_f (by omega) (decide_eq_false (by omega))]; omega)
        · intro k h0 h1
          rw [wv_i]
          rw [show 0 + a = a by omega]
          by_cases e : k = a
          · rw [if_pos e, e, if_pos (by omega), hr80]
          · rw [if_neg e]; exact h80 k h0 (by omega)
        · intro k h0 h1
          by_cases e : k = a
          · rw [e, if_pos (by omega)]; exact hr84
          · exact h84 k h0 (by omega)
        · exact ⟨fun k h0 => by rw [wv_k (by omega)]; exact hr.1 k (by omega), fun k h0 => hr.2 k (by omega)⟩
        · omega
    · refine Or.inl ⟨show inr ((f1 (fv 79 12) 0) + 1) from by constructor <;> omega, ?_⟩
      rw [show a = f (fv 79 4) 0 by omega] at hcc h80 h84 hr
      rw [← hcc] at k1
      have hnn := hn.1
      have hk := k1 (wv (wv f1 (fv 79 12) 0 ((f1 (fv 79 12) 0) + 1)) (fv 79 3) 0 0) hn.2 h80 h84 hr ⟨by show f1 (fv 79 12) 0 + 1 = _; rw [hnn], rfl⟩
      rw [show mx [80, 84, fv 79 0, fv 79 12, fv 79 3] f (wv (wv f1 (fv 79 12) 0 ((f1 (fv 79 12) 0) + 1)) (fv 79 3) 0 0) = (wv (wv (mx [80, 84, fv 79 0, fv 79 12, fv 79 3] f f1) (fv 79 12) 0 ((f1 (fv 79 12) 0) + 1)) (fv 79 3) 0 0) from ((mx_wv rfl (mx_wv rfl rfl))).symm] at hk
      exact hk
  · refine ⟨fun (hh_3 : f (fv 79 12) 0 = 9999) => ?_, fun (hh_3 : ¬ f (fv 79 12) 0 = 9999) => ?_⟩
    · exact k0 (by assumption)
    · refine hF (f (fv 79 4) 0 - 0 : Int).toNat ?_ ⟨rfl, 0, 0, (wv f (fv 79 0) 0 0), rfl, rfl, (mx_wv rfl mx_rf), rfl, ?_, ?_, ?_, ?_, ?_, ?_, ?_⟩
      · omega
      · omega
      · exact ⟨rfl, by assumption⟩
      · rfl
      · intro k h0 h1; omega
      · intro k h0 h1; omega
      · exact ⟨fun _ _ => rfl, fun _ _ => rfl⟩
      · omega
end C12
