section C11
variable {d : Nat} {f : iF} {g : iG} {Q : Option iv → iF → iG → Prop}
/-! ===== the reference: small methods ===== -/
/-- the next state of draws -/
def nxt (x : Int) : Int := w32 (w32 (1664525 * x) + 1013904223)
theorem ushr_r (x : Int) : 0 ≤ b_ushr x 8 ∧ b_ushr x 8 ≤ 16777215 := by
  have e : ((Int32.ofInt x).toUInt32 >>> ((Int32.ofInt 8).toUInt32 &&& Int32.toUInt32 31)).toNat = (Int32.ofInt x).toUInt32.toNat / 256 := by
    show ((Int32.ofInt x).toUInt32.toBitVec >>> (((Int32.ofInt 8).toUInt32 &&& Int32.toUInt32 31) % 32).toBitVec).toNat = _
    rw [BitVec.ushiftRight_eq', BitVec.toNat_ushiftRight, show (((Int32.ofInt 8).toUInt32 &&& Int32.toUInt32 31) % 32).toBitVec.toNat = 8 by decide, Nat.shiftRight_eq_div_pow]
    rfl
  have hl : (Int32.ofInt x).toUInt32.toNat < 4294967296 := (Int32.ofInt x).toUInt32.toBitVec.isLt
  have e2 : b_ushr x 8 = (((Int32.ofInt x).toUInt32.toNat / 256 : Nat) : Int) := by
    unfold b_ushr
    rw [← e]
    show BitVec.toInt _ = ((BitVec.toNat _ : Nat) : Int)
    rw [BitVec.toInt_eq_toNat_cond, if_pos]
    · rfl
    show 2 * ((Int32.ofInt x).toUInt32 >>> ((Int32.ofInt 8).toUInt32 &&& Int32.toUInt32 31)).toNat < 2 ^ 32
    rw [e]
    omega
  rw [e2]
  omega
def drw (x m : Int) : Int := (b_ushr x 8).tmod m
theorem drw_r (x : Int) : 0 ≤ drw x 1000 ∧ drw x 1000 < 1000 := by
  have := ushr_r x
  unfold drw
  rw [Int.tmod_eq_emod_of_nonneg this.1]
  omega
/-- the sign that a byte tells -/
def sgI (c : Int) : Int := if 97 ≤ c ∧ c ≤ 122 then c - 97 else if c = 44 then 26 else if c = 46 then 27 else if c = 59 then 28 else if c = 32 ∨ c = 10 then 29 else -1
theorem sgI_r (c : Int) : -1 ≤ sgI c ∧ sgI c ≤ 29 := by
  unfold sgI
  repeat' split
  all_goals omega
set_option maxRecDepth 100000 in
set_option maxHeartbeats 4000000 in
theorem c_keeps (hd : 1 ≤ d) (hu : 0 ≤ (f (fv 79 3) 0) ∧ (f (fv 79 3) 0) ≤ 6) (k0 : ∀ f1 : iF, (((f (fv 79 3) 0) = 6 ∧ f1 (fv 79 3) 0 = 6 ∧ (∀ j, 0 ≤ j → j < 200 → f1 81 j = (f 81 (j + 40))) ∧ ∀ j, 0 ≤ j → j < 40 → f1 81 (200 + j) = (f 80 j)) ∨ (¬ (f (fv 79 3) 0) = 6 ∧ f1 (fv 79 3) 0 = (f (fv 79 3) 0) + 1 ∧ (∀ j, 0 ≤ j → j < 40 * (f (fv 79 3) 0) → f1 81 j = (f 81 j)) ∧ ∀ j, 0 ≤ j → j < 40 → f1 81 (40 * (f (fv 79 3) 0) + j) = (f 80 j))) → Q none (mx [81, fv 79 3] f f1) g) : wq d 2 [iR 79] f g Q := by
  obtain ⟨d, rfl⟩ : ∃ e, d = e + 1 := ⟨d - 1, by omega⟩
  refine i_meth [(12, 2), (32, 2)] (fun n j lv st f' g' => (j = 12 ∧ ∃ (k : Int) (f1 : iF), lv = [some (iR 79), some (iI k)] ∧ st = [] ∧ f' = (mx [81, fv 79 3] f f1) ∧ g = g' ∧ (f (fv 79 3) 0 = 6) ∧ (f1 (fv 79 3) 0 = 5) ∧ (0 ≤ k ∧ k ≤ 200) ∧ (∀ j, 0 ≤ j → j < k → f1 81 j = f 81 (j + 40)) ∧ (∀ j, k ≤ j → j < 240 → f1 81 j = f 81 j) ∧ (n : Int) = 300 - k) ∨ (j = 32 ∧ ∃ (k : Int) (f1 : iF), lv = [some (iR 79), some (iI k)] ∧ st = [] ∧ f' = (mx [81, fv 79 3] f f1) ∧ g = g' ∧ ((f (fv 79 3) 0 = 6 ∧ f1 (fv 79 3) 0 = 5 ∧ ∀ j, 0 ≤ j → j < 200 → f1 81 j = f 81 (j + 40)) ∨ (¬ f (fv 79 3) 0 = 6 ∧ f1 (fv 79 3) 0 = f (fv 79 3) 0 ∧ ∀ j, 0 ≤ j → j < 40 * f (fv 79 3) 0 → f1 81 j = f 81 j)) ∧ (0 ≤ k ∧ k ≤ 40) ∧ (∀ j, 0 ≤ j → j < k → f1 81 (40 * f1 (fv 79 3) 0 + j) = f 80 j) ∧ (n : Int) = 40 - k)) 300 (by omega) rfl rfl (fun n j lv st f' g' hn hI O J hO hF hB => ?_) (fun hvs hin O J hO hF => ?_)
  · rcases hI with hI | hI
    · obtain ⟨rfl, k, f1, rfl, rfl, rfl, rfl, h6, h5, hk, hz, hy, hm⟩ := hI
      refine Or.inl ⟨show inr (40 * (f1 (fv 79 3) 0)) from by constructor <;> omega, ?_⟩
      refine ⟨fun (hh_1 : k < (40 * (f1 (fv 79 3) 0))) => ?_, fun (hh_1 : ¬ k < (40 * (f1 (fv 79 3) 0))) => ?_⟩
      · refine Or.inl ⟨show inr (k + 40) from by constructor <;> omega, ?_⟩
        refine ⟨show 0 ≤ ((k + 40) : Int) ∧ (k + 40) < 240 from by omega, ?_⟩
        refine ⟨show 0 ≤ (k : Int) ∧ k < 240 from by omega, ?_⟩
        refine ⟨show inr (k + 1) from by constructor <;> omega, ?_⟩
        refine hB (300 - (k + 1) : Int).toNat ?_ (Or.inl ⟨rfl, (k + 1), (wv f1 81 k (f1 81 (k + 40))), rfl, rfl, (mx_wv rfl rfl), rfl, ?_, ?_, ?_, ?_, ?_, ?_⟩)
        · omega
        · exact h6
        · exact h5
        · omega
        · intro j h0 h1
          rw [wv_i]
          by_cases e : j = k
          · rw [if_pos e, e, hy (k + 40) (by omega) (by omega)]
          · rw [if_neg e]; exact hz j h0 (by omega)
        · intro j h0 h1
          rw [wv_k (by omega)]
          exact hy j (by omega) h1
        · omega
      · refine hF (40 - 0 : Int).toNat ?_ (Or.inr (⟨rfl, 0, f1, rfl, rfl, rfl, rfl, ?_, ?_, ?_, ?_⟩))
        · omega
        · first | exact Or.inl ⟨h6, h5, fun j h0 h1 => hz j h0 (by omega)⟩ | exact Or.inr ⟨by assumption, rfl, fun _ _ _ => rfl⟩
        · omega
        · intro j h0 h1; omega
        · omega
    · obtain ⟨rfl, k, f1, rfl, rfl, rfl, rfl, hc, hk, hz, hm⟩ := hI
      have hn1 : 0 ≤ f1 (fv 79 3) 0 ∧ f1 (fv 79 3) 0 ≤ 5 := by rcases hc with hc | hc <;> omega
      refine ⟨fun (hh_2 : k < 40) => ?_, fun (hh_2 : ¬ k < 40) => ?_⟩
      · refine Or.inl ⟨show inr (40 * (f1 (fv 79 3) 0)) from by constructor <;> omega, ?_⟩
        refine Or.inl ⟨show inr ((40 * (f1 (fv 79 3) 0)) + k) from by constructor <;> omega, ?_⟩
        refine ⟨show 0 ≤ (k : Int) ∧ k < 40 from by omega, ?_⟩
        refine ⟨show 0 ≤ (((40 * (f1 (fv 79 3) 0)) + k) : Int) ∧ ((40 * (f1 (fv 79 3) 0)) + k) < 240 from by omega, ?_⟩
        refine ⟨show inr (k + 1) from by constructor <;> omega, ?_⟩
        refine hB (40 - (k + 1) : Int).toNat ?_ (Or.inr (⟨rfl, (k + 1), (wv f1 81 ((40 * (f1 (fv 79 3) 0)) + k) (f 80 k)), rfl, rfl, (mx_wv rfl rfl), rfl, ?_, ?_, ?_, ?_⟩))
        · omega
        · rcases hc with ⟨q1, q2, q3⟩ | ⟨q1, q2, q3⟩
          · exact Or.inl ⟨q1, q2, fun j h0 h1 => by rw [wv_k (by omega)]; exact q3 j h0 h1⟩
          · exact Or.inr ⟨q1, q2, fun j h0 h1 => by rw [wv_k (by omega)]; exact q3 j h0 h1⟩
        · omega
        · intro j h0 h1
          rw [wv_i]
          by_cases e : j = k
          · rw [if_pos (by show 40 * f1 (fv 79 3) 0 + j = _; omega), e]
          · rw [if_neg (by show ¬ 40 * f1 (fv 79 3) 0 + j = _; omega)]; exact hz j h0 (by omega)
        · omega
      · refine Or.inl ⟨show inr ((f1 (fv 79 3) 0) + 1) from by constructor <;> omega, ?_⟩
        have hk40 : k = 40 := by omega
        subst hk40
        have hk := k0 (wv f1 (fv 79 3) 0 ((f1 (fv 79 3) 0) + 1)) (by
          rcases hc with ⟨q1, q2, q3⟩ | ⟨q1, q2, q3⟩
          · exact Or.inl ⟨q1, by show f1 (fv 79 3) 0 + 1 = 6; omega, q3, fun j h0 h1 => by have := hz j h0 h1; rw [q2] at this; exact this⟩
          · exact Or.inr ⟨q1, by show f1 (fv 79 3) 0 + 1 = _; omega, q3, fun j h0 h1 => by have := hz j h0 h1; rw [q2] at this; exact this⟩)
        rw [show mx [81, fv 79 3] f (wv f1 (fv 79 3) 0 ((f1 (fv 79 3) 0) + 1)) = (wv (mx [81, fv 79 3] f f1) (fv 79 3) 0 ((f1 (fv 79 3) 0) + 1)) from ((mx_wv rfl rfl)).symm] at hk
        exact hk
  · refine ⟨fun (hh_3 : f (fv 79 3) 0 = 6) => ?_, fun (hh_3 : ¬ f (fv 79 3) 0 = 6) => ?_⟩
    · refine Or.inl ⟨show inr ((f (fv 79 3) 0) - 1) from by constructor <;> omega, ?_⟩
      refine hF (300 - 0 : Int).toNat ?_ (Or.inl ⟨rfl, 0, (wv f (fv 79 3) 0 ((f (fv 79 3) 0) - 1)), rfl, rfl, (mx_wv rfl mx_rf), rfl, ?_, ?_, ?_, ?_, ?_, ?_⟩)
      · omega
      · assumption
      · show (f (fv 79 3) 0 - 1 : Int) = 5; omega
      · omega
      · intro j h0 h1; omega
      · exact fun _ _ _ => rfl
      · omega
    · refine hF (40 - 0 : Int).toNat ?_ (Or.inr (⟨rfl, 0, f, rfl, rfl, mx_rf, rfl, ?_, ?_, ?_, ?_⟩))
      · omega
      · first | exact Or.inl ⟨h6, h5, fun j h0 h1 => hz j h0 (by omega)⟩ | exact Or.inr ⟨by assumption, rfl, fun _ _ _ => rfl⟩
      · omega
      · intro j h0 h1; omega
      · omega
set_option maxRecDepth 100000 in
set_option maxHeartbeats 4000000 in
theorem c_undo (hd : 1 ≤ d) (hu : 0 ≤ (f (fv 79 3) 0) ∧ (f (fv 79 3) 0) ≤ 6) (k0 : ((f (fv 79 3) 0) = 0) → Q (some (iI 0)) (wv f (fv 79 0) 0 0) g) (k1 : ∀ f1 : iF, (1 ≤ (f (fv 79 3) 0)) → (f1 (fv 79 3) 0 = (f (fv 79 3) 0) - 1) → (∀ j, 0 ≤ j → j < 40 → f1 80 j = (f 81 (40 * ((f (fv 79 3) 0) - 1) + j))) → Q (some (iI 1)) (mx [80, fv 79 0, fv 79 3] f f1) g) : wq d 3 [iR 79] f g Q := by
  obtain ⟨d, rfl⟩ : ∃ e, d = e + 1 := ⟨d - 1, by omega⟩
  refine i_meth [(16, 2)] (fun n j lv st f' g' => (j = 16 ∧ ∃ (k : Int) (f1 : iF), lv = [some (iR 79), some (iI k)] ∧ st = [] ∧ f' = (mx [80, fv 79 0, fv 79 3] f f1) ∧ g = g' ∧ (1 ≤ f (fv 79 3) 0 ∧ f1 (fv 79 3) 0 = f (fv 79 3) 0 - 1) ∧ (0 ≤ k ∧ k ≤ 40) ∧ (∀ j, 0 ≤ j → j < k → f1 80 j = f 81 (40 * (f (fv 79 3) 0 - 1) + j)) ∧ (n : Int) = 40 - k)) 40 (by omega) rfl rfl (fun n j lv st f' g' hn hI O J hO hF hB => ?_) (fun hvs hin O J hO hF => ?_)
  · obtain ⟨rfl, k, f1, rfl, rfl, rfl, rfl, hn, hk, hz, hm⟩ := hI
    refine ⟨fun (hh_1 : k < 40) => ?_, fun (hh_1 : ¬ k < 40) => ?_⟩
    · refine Or.inl ⟨show inr (40 * (f1 (fv 79 3) 0)) from by constructor <;> omega, ?_⟩
      refine Or.inl ⟨show inr ((40 * (f1 (fv 79 3) 0)) + k) from by constructor <;> omega, ?_⟩
      refine ⟨show 0 ≤ (((40 * (f1 (fv 79 3) 0)) + k) : Int) ∧ ((40 * (f1 (fv 79 3) 0)) + k) < 240 from by omega, ?_⟩
      refine ⟨show 0 ≤ (k : Int) ∧ k < 40 from by omega, ?_⟩
      refine ⟨show inr (k + 1) from by constructor <;> omega, ?_⟩
      refine hB (40 - (k + 1) : Int).toNat ?_ ⟨rfl, (k + 1), (wv f1 80 k (f 81 ((40 * (f1 (fv 79 3) 0)) + k))), rfl, rfl, (mx_wv rfl rfl), rfl, ?_, ?_, ?_, ?_⟩
      · omega
      · exact hn
      · omega
      · intro j h0 h1
        rw [wv_i]
        by_cases e : j = k
        · rw [if_pos e, e, ← hn.2]
        · rw [if_neg e]; exact hz j h0 (by omega)
      · omega
    · refine ⟨show (1 : Int) = 0 ∨ 1 = 1 from by decide, ?_⟩
      exact k1 f1 (by exact hn.1) (by exact hn.2) (by exact fun j h0 h1 => hz j h0 (by omega))
  · refine ⟨fun (hh_2 : f (fv 79 3) 0 = 0) => ?_, fun (hh_2 : ¬ f (fv 79 3) 0 = 0) => ?_⟩
    · refine ⟨show (0 : Int) = 0 ∨ 0 = 1 from by decide, ?_⟩
      exact k0 (by assumption)
    · refine Or.inl ⟨show inr ((f (fv 79 3) 0) - 1) from by constructor <;> omega, ?_⟩
      refine hF (40 - 0 : Int).toNat ?_ ⟨rfl, 0, (wv (wv f (fv 79 0) 0 0) (fv 79 3) 0 ((f (fv 79 3) 0) - 1)), rfl, rfl, (mx_wv rfl (mx_wv rfl mx_rf)), rfl, ?_, ?_, ?_, ?_⟩
      · omega
      · exact ⟨by omega, rfl⟩
      · omega
      · intro j h0 h1; omega
      · omega
set_option maxRecDepth 100000 in
set_option maxHeartbeats 4000000 in
theorem c_state {v : Int} (hd : 1 ≤ d) (k0 : Q (some (iI (f 80 39))) (wv (wv (wv f (fv 79 0) 0 0) 80 39 v) (fv 79 3) 0 0) g) : wq d 4 [iR 79, iI v] f g Q := by
  obtain ⟨d, rfl⟩ : ∃ e, d = e + 1 := ⟨d - 1, by omega⟩
  refine i_meth0 rfl rfl (fun O J hO => ?_)
  refine ⟨show 0 ≤ (39 : Int) ∧ 39 < 40 from by decide, ?_⟩
  refine ⟨show 0 ≤ (39 : Int) ∧ 39 < 40 from by decide, ?_⟩
  exact k0
set_option maxRecDepth 100000 in
set_option maxHeartbeats 4000000 in
theorem c_draw {m : Int} (hd : 1 ≤ d) (hm : m = 1000) (k0 : Q (some (iI (drw (nxt (f 80 39)) m))) (wv f 80 39 (nxt (f 80 39))) g) : wq d 5 [iR 79, iI m] f g Q := by
  obtain ⟨d, rfl⟩ : ∃ e, d = e + 1 := ⟨d - 1, by omega⟩
  refine i_meth0 rfl rfl (fun O J hO => ?_)
  refine ⟨show 0 ≤ (39 : Int) ∧ 39 < 40 from by decide, ?_⟩
  refine Or.inr ?_
  refine Or.inr ?_
  refine ⟨show 0 ≤ (39 : Int) ∧ 39 < 40 from by decide, ?_⟩
  refine ⟨show 0 ≤ (39 : Int) ∧ 39 < 40 from by decide, ?_⟩
  refine ⟨show ¬ (m : Int) = 0 from by omega, show inr ((b_ushr (w32 ((w32 (1664525 * (f 80 39))) + 1013904223)) 8).tmod m) from by (have := drw_r (nxt (f 80 39)); unfold drw nxt at this; rw [hm]; constructor <;> omega), ?_⟩
  exact k0
set_option maxRecDepth 100000 in
set_option maxHeartbeats 4000000 in
theorem c_apprentice {pu br : Int} (hd : 2 ≤ d) (hc : 0 ≤ (f (fv 79 4) 0) ∧ (f (fv 79 4) 0) ≤ 8) (k0 : (0 ≤ pu ∧ pu ≤ 99999 ∧ 0 ≤ br ∧ br ≤ 99 ∧ ¬ (f (fv 79 4) 0) = 8) → Q (some (iI ((f (fv 79 4) 0) + 1 - 1))) (wv (wv (wv (wv (wv f (fv 79 0) 0 0) 80 (0 + (f (fv 79 4) 0)) pu) 82 (f (fv 79 4) 0) br) (fv 79 4) 0 ((f (fv 79 4) 0) + 1)) (fv 79 3) 0 0) g) (k1 : (¬ (0 ≤ pu ∧ pu ≤ 99999 ∧ 0 ≤ br ∧ br ≤ 99 ∧ ¬ (f (fv 79 4) 0) = 8)) → Q (some (iI (-1))) (wv f (fv 79 0) 0 0) g) : wq d 8 [iR 79, iI pu, iI br] f g Q := by
  obtain ⟨d, rfl⟩ : ∃ e, d = e + 1 := ⟨d - 1, by omega⟩
  refine i_meth0 rfl rfl (fun O J hO => ?_)
  refine hO (c_isIn (by omega) (fun (hh_1 : 0 ≤ pu) (hh_2 : pu ≤ 99999) => ?_) (fun (hh_3 : ¬ (0 ≤ pu ∧ pu ≤ 99999)) => ?_))
  · refine ⟨fun h => absurd (show (1 : Int) = 0 from h) (by decide), fun _ => ?_⟩
    refine hO (c_isIn (by omega) (fun (hh_4 : 0 ≤ br) (hh_5 : br ≤ 99) => ?_) (fun (hh_6 : ¬ (0 ≤ br ∧ br ≤ 99)) => ?_))
    · refine ⟨fun h => absurd (show (1 : Int) = 0 from h) (by decide), fun _ => ?_⟩
      refine ⟨fun (hh_7 : f (fv 79 4) 0 = 8) => ?_, fun (hh_7 : ¬ f (fv 79 4) 0 = 8) => ?_⟩
      · exact k1 (by omega)
      · refine Or.inl ⟨show inr (0 + (f (fv 79 4) 0)) from by constructor <;> omega, ?_⟩
        refine ⟨show 0 ≤ ((0 + (f (fv 79 4) 0)) : Int) ∧ (0 + (f (fv 79 4) 0)) < 40 from by omega, ?_⟩
        refine ⟨show 0 ≤ (f (fv 79 4) 0 : Int) ∧ f (fv 79 4) 0 < 8 from by omega, ?_⟩
        refine Or.inl ⟨show inr ((f (fv 79 4) 0) + 1) from by constructor <;> omega, ?_⟩
        refine Or.inl ⟨show inr (((f (fv 79 4) 0) + 1) - 1) from by constructor <;> omega, ?_⟩
        exact k0 (by omega)
    · refine ⟨fun _ => ?_, fun h => absurd (show (0 : Int) = 0 from by decide) h⟩
      exact k1 (by omega)
  · refine ⟨fun _ => ?_, fun h => absurd (show (0 : Int) = 0 from by decide) h⟩
    exact k1 (by omega)
set_option maxRecDepth 100000 in
set_option maxHeartbeats 4000000 in
theorem c_own {s a : Int} (hd : 2 ≤ d) (hc : 0 ≤ (f (fv 79 4) 0) ∧ (f (fv 79 4) 0) ≤ 8) (k0 : (0 ≤ s ∧ s < 29 ∧ (a = (-1) ∨ 0 ≤ a ∧ a < (f (fv 79 4) 0))) → Q (some (iI 1)) (wv (wv (wv f (fv 79 0) 0 0) 86 s (a + 1)) (fv 79 3) 0 0) g) (k1 : (¬ (0 ≤ s ∧ s < 29 ∧ (a = (-1) ∨ 0 ≤ a ∧ a < (f (fv 79 4) 0)))) → Q (some (iI 0)) (wv f (fv 79 0) 0 0) g) : wq d 9 [iR 79, iI s, iI a] f g Q := by
  obtain ⟨d, rfl⟩ : ∃ e, d = e + 1 := ⟨d - 1, by omega⟩
  refine i_meth0 rfl rfl (fun O J hO => ?_)
  refine hO (c_isOneOf (by omega) (fun (hh_1 : 0 ≤ s) (hh_2 : s < 29) => ?_) (fun (hh_3 : ¬ (0 ≤ s ∧ s < 29)) => ?_))
  · refine ⟨fun h => absurd (show (1 : Int) = 0 from h) (by decide), fun _ => ?_⟩
    refine ⟨fun (hh_4 : a = (-1)) => ?_, fun (hh_4 : ¬ a = (-1)) => ?_⟩
    · refine Or.inl ⟨show inr (a + 1) from by constructor <;> omega, ?_⟩
      refine ⟨show 0 ≤ (s : Int) ∧ s < 29 from by omega, ?_⟩
      refine ⟨show (1 : Int) = 0 ∨ 1 = 1 from by decide, ?_⟩
      exact k0 (by omega)
    · refine hO (c_isAppr (by omega) (fun (hh_5 : 0 ≤ a) (hh_6 : a < (f (fv 79 4) 0)) => ?_) (fun (hh_7 : ¬ (0 ≤ a ∧ a < (f (fv 79 4) 0))) => ?_))
      · refine ⟨fun h => absurd (show (1 : Int) = 0 from h) (by decide), fun _ => ?_⟩
        refine Or.inl ⟨show inr (a + 1) from by constructor <;> omega, ?_⟩
        refine ⟨show 0 ≤ (s : Int) ∧ s < 29 from by omega, ?_⟩
        refine ⟨show (1 : Int) = 0 ∨ 1 = 1 from by decide, ?_⟩
        exact k0 (by omega)
      · refine ⟨fun _ => ?_, fun h => absurd (show (0 : Int) = 0 from by decide) h⟩
        refine ⟨show (0 : Int) = 0 ∨ 0 = 1 from by decide, ?_⟩
        exact k1 (by omega)
  · refine ⟨fun _ => ?_, fun h => absurd (show (0 : Int) = 0 from by decide) h⟩
    refine ⟨show (0 : Int) = 0 ∨ 0 = 1 from by decide, ?_⟩
    exact k1 (by omega)
set_option maxRecDepth 100000 in
set_option maxHeartbeats 4000000 in
theorem c_canSet {w h v : Int} (hd : 2 ≤ d) (k0 : ((w = 0 ∧ 0 ≤ v ∧ v ≤ 1000) ∨ (w = 1 ∧ 0 ≤ h ∧ h < 29 ∧ 0 ≤ v ∧ v ≤ 1) ∨ (0 ≤ h ∧ h < (f (fv 79 4) 0) ∧ ((w = 2 ∧ 0 ≤ v ∧ v ≤ 99) ∨ (w = 3 ∧ 0 ≤ v ∧ v ≤ 1) ∨ (w = 4 ∧ 0 ≤ v ∧ v ≤ 99999) ∨ (w = 5 ∧ (-1) ≤ v ∧ v ≤ 99999)))) → Q (some (iI 1)) f g) (k1 : (¬ ((w = 0 ∧ 0 ≤ v ∧ v ≤ 1000) ∨ (w = 1 ∧ 0 ≤ h ∧ h < 29 ∧ 0 ≤ v ∧ v ≤ 1) ∨ (0 ≤ h ∧ h < (f (fv 79 4) 0) ∧ ((w = 2 ∧ 0 ≤ v ∧ v ≤ 99) ∨ (w = 3 ∧ 0 ≤ v ∧ v ≤ 1) ∨ (w = 4 ∧ 0 ≤ v ∧ v ≤ 99999) ∨ (w = 5 ∧ (-1) ≤ v ∧ v ≤ 99999))))) → Q (some (iI 0)) f g) : wq d 10 [iR 79, iI w, iI h, iI v] f g Q := by
  obtain ⟨d, rfl⟩ : ∃ e, d = e + 1 := ⟨d - 1, by omega⟩
  refine i_meth0 rfl rfl (fun O J hO => ?_)
  refine ⟨fun (hh_1 : w = 0) => ?_, fun (hh_1 : ¬ w = 0) => ?_⟩
  · refine hO (c_isIn (by omega) (fun (hh_2 : 0 ≤ v) (hh_3 : v ≤ 1000) => ?_) (fun (hh_4 : ¬ (0 ≤ v ∧ v ≤ 1000)) => ?_))
    · refine ⟨show (1 : Int) = 0 ∨ 1 = 1 from by decide, ?_⟩
      exact k0 (by omega)
    · refine ⟨show (0 : Int) = 0 ∨ 0 = 1 from by decide, ?_⟩
      exact k1 (by omega)
  · refine ⟨fun (hh_5 : w = 1) => ?_, fun (hh_5 : ¬ w = 1) => ?_⟩
    · refine hO (c_isOneOf (by omega) (fun (hh_6 : 0 ≤ h) (hh_7 : h < 29) => ?_) (fun (hh_8 : ¬ (0 ≤ h ∧ h < 29)) => ?_))
      · refine ⟨fun h => absurd (show (1 : Int) = 0 from h) (by decide), fun _ => ?_⟩
        refine hO (c_isIn (by omega) (fun (hh_9 : 0 ≤ v) (hh_10 : v ≤ 1) => ?_) (fun (hh_11 : ¬ (0 ≤ v ∧ v ≤ 1)) => ?_))
        · refine ⟨fun h => absurd (show (1 : Int) = 0 from h) (by decide), fun _ => ?_⟩
          refine ⟨show (1 : Int) = 0 ∨ 1 = 1 from by decide, ?_⟩
          exact k0 (by omega)
        · refine ⟨fun _ => ?_, fun h => absurd (show (0 : Int) = 0 from by decide) h⟩
          refine ⟨show (0 : Int) = 0 ∨ 0 = 1 from by decide, ?_⟩
          exact k1 (by omega)
      · refine ⟨fun _ => ?_, fun h => absurd (show (0 : Int) = 0 from by decide) h⟩
        refine ⟨show (0 : Int) = 0 ∨ 0 = 1 from by decide, ?_⟩
        exact k1 (by omega)
    · refine hO (c_isIn (by omega) (fun (hh_12 : 2 ≤ w) (hh_13 : w ≤ 5) => ?_) (fun (hh_14 : ¬ (2 ≤ w ∧ w ≤ 5)) => ?_))
      · refine ⟨fun h => absurd (show (1 : Int) = 0 from h) (by decide), fun _ => ?_⟩
        refine hO (c_isAppr (by omega) (fun (hh_15 : 0 ≤ h) (hh_16 : h < (f (fv 79 4) 0)) => ?_) (fun (hh_17 : ¬ (0 ≤ h ∧ h < (f (fv 79 4) 0))) => ?_))
        · refine ⟨fun h => absurd (show (1 : Int) = 0 from h) (by decide), fun _ => ?_⟩
          refine ⟨fun (hh_18 : w = 2) => ?_, fun (hh_18 : ¬ w = 2) => ?_⟩
          · refine hO (c_isIn (by omega) (fun (hh_19 : 0 ≤ v) (hh_20 : v ≤ 99) => ?_) (fun (hh_21 : ¬ (0 ≤ v ∧ v ≤ 99)) => ?_))
            · refine ⟨show (1 : Int) = 0 ∨ 1 = 1 from by decide, ?_⟩
              exact k0 (by omega)
            · refine ⟨show (0 : Int) = 0 ∨ 0 = 1 from by decide, ?_⟩
              exact k1 (by omega)
          · refine ⟨fun (hh_22 : w = 3) => ?_, fun (hh_22 : ¬ w = 3) => ?_⟩
            · refine hO (c_isIn (by omega) (fun (hh_23 : 0 ≤ v) (hh_24 : v ≤ 1) => ?_) (fun (hh_25 : ¬ (0 ≤ v ∧ v ≤ 1)) => ?_))
              · refine ⟨show (1 : Int) = 0 ∨ 1 = 1 from by decide, ?_⟩
                exact k0 (by omega)
              · refine ⟨show (0 : Int) = 0 ∨ 0 = 1 from by decide, ?_⟩
                exact k1 (by omega)
            · refine ⟨fun (hh_26 : w = 4) => ?_, fun (hh_26 : ¬ w = 4) => ?_⟩
              · refine hO (c_isIn (by omega) (fun (hh_27 : 0 ≤ v) (hh_28 : v ≤ 99999) => ?_) (fun (hh_29 : ¬ (0 ≤ v ∧ v ≤ 99999)) => ?_))
                · refine ⟨show (1 : Int) = 0 ∨ 1 = 1 from by decide, ?_⟩
                  exact k0 (by omega)
                · refine ⟨show (0 : Int) = 0 ∨ 0 = 1 from by decide, ?_⟩
                  exact k1 (by omega)
              · refine hO (c_isIn (by omega) (fun (hh_30 : (-1) ≤ v) (hh_31 : v ≤ 99999) => ?_) (fun (hh_32 : ¬ ((-1) ≤ v ∧ v ≤ 99999)) => ?_))
                · refine ⟨show (1 : Int) = 0 ∨ 1 = 1 from by decide, ?_⟩
                  exact k0 (by omega)
                · refine ⟨show (0 : Int) = 0 ∨ 0 = 1 from by decide, ?_⟩
                  exact k1 (by omega)
        · refine ⟨fun _ => ?_, fun h => absurd (show (0 : Int) = 0 from by decide) h⟩
          refine ⟨show (0 : Int) = 0 ∨ 0 = 1 from by decide, ?_⟩
          exact k1 (by omega)
      · refine ⟨fun _ => ?_, fun h => absurd (show (0 : Int) = 0 from by decide) h⟩
        refine ⟨show (0 : Int) = 0 ∨ 0 = 1 from by decide, ?_⟩
        exact k1 (by omega)
set_option maxRecDepth 100000 in
set_option maxHeartbeats 4000000 in
theorem c_set {w h v : Int} (hd : 3 ≤ d) (hc : 0 ≤ (f (fv 79 4) 0) ∧ (f (fv 79 4) 0) ≤ 8) (k0 : (w = 0 ∧ 0 ≤ v ∧ v ≤ 1000) → Q (some (iI 1)) (wv (wv (wv f (fv 79 0) 0 0) (fv 79 11) 0 v) (fv 79 3) 0 0) g) (k1 : (w = 1 ∧ 0 ≤ h ∧ h < 29 ∧ 0 ≤ v ∧ v ≤ 1) → Q (some (iI 1)) (wv (wv (wv f (fv 79 0) 0 0) 87 h v) (fv 79 3) 0 0) g) (k2 : (w = 2 ∧ 0 ≤ h ∧ h < (f (fv 79 4) 0) ∧ 0 ≤ v ∧ v ≤ 99) → Q (some (iI 1)) (wv (wv (wv f (fv 79 0) 0 0) 82 h v) (fv 79 3) 0 0) g) (k3 : (w = 3 ∧ 0 ≤ h ∧ h < (f (fv 79 4) 0) ∧ 0 ≤ v ∧ v ≤ 1) → Q (some (iI 1)) (wv (wv (wv f (fv 79 0) 0 0) 83 h v) (fv 79 3) 0 0) g) (k4 : (w = 4 ∧ 0 ≤ h ∧ h < (f (fv 79 4) 0) ∧ 0 ≤ v ∧ v ≤ 99999) → Q (some (iI 1)) (wv (wv (wv f (fv 79 0) 0 0) 80 (0 + h) v) (fv 79 3) 0 0) g) (k5 : (w = 5 ∧ 0 ≤ h ∧ h < (f (fv 79 4) 0) ∧ (-1) ≤ v ∧ v ≤ 99999) → Q (some (iI 1)) (wv (wv f (fv 79 0) 0 0) 85 h (v + 1)) g) (k6 : (¬ ((w = 0 ∧ 0 ≤ v ∧ v ≤ 1000) ∨ (w = 1 ∧ 0 ≤ h ∧ h < 29 ∧ 0 ≤ v ∧ v ≤ 1) ∨ (0 ≤ h ∧ h < (f (fv 79 4) 0) ∧ ((w = 2 ∧ 0 ≤ v ∧ v ≤ 99) ∨ (w = 3 ∧ 0 ≤ v ∧ v ≤ 1) ∨ (w = 4 ∧ 0 ≤ v ∧ v ≤ 99999) ∨ (w = 5 ∧ (-1) ≤ v ∧ v ≤ 99999))))) → Q (some (iI 0)) (wv f (fv 79 0) 0 0) g) : wq d 11 [iR 79, iI w, iI h, iI v] f g Q := by
  obtain ⟨d, rfl⟩ : ∃ e, d = e + 1 := ⟨d - 1, by omega⟩
  refine i_meth0 rfl rfl (fun O J hO => ?_)
  refine hO (c_canSet (by omega) (fun (hh_1 : (w = 0 ∧ 0 ≤ v ∧ v ≤ 1000) ∨ (w = 1 ∧ 0 ≤ h ∧ h < 29 ∧ 0 ≤ v ∧ v ≤ 1) ∨ (0 ≤ h ∧ h < (f (fv 79 4) 0) ∧ ((w = 2 ∧ 0 ≤ v ∧ v ≤ 99) ∨ (w = 3 ∧ 0 ≤ v ∧ v ≤ 1) ∨ (w = 4 ∧ 0 ≤ v ∧ v ≤ 99999) ∨ (w = 5 ∧ (-1) ≤ v ∧ v ≤ 99999)))) => ?_) (fun (hh_2 : ¬ ((w = 0 ∧ 0 ≤ v ∧ v ≤ 1000) ∨ (w = 1 ∧ 0 ≤ h ∧ h < 29 ∧ 0 ≤ v ∧ v ≤ 1) ∨ (0 ≤ h ∧ h < (f (fv 79 4) 0) ∧ ((w = 2 ∧ 0 ≤ v ∧ v ≤ 99) ∨ (w = 3 ∧ 0 ≤ v ∧ v ≤ 1) ∨ (w = 4 ∧ 0 ≤ v ∧ v ≤ 99999) ∨ (w = 5 ∧ (-1) ≤ v ∧ v ≤ 99999))))) => ?_))
  · refine ⟨fun h => absurd (show (1 : Int) = 0 from h) (by decide), fun _ => ?_⟩
    refine ⟨fun (hh_3 : w = 0) => ?_, fun (hh_3 : ¬ w = 0) => ?_⟩
    · refine ⟨fun h => absurd (show w = 1 from h) (by omega), fun _ => ?_⟩
      refine ⟨fun h => absurd (show w = 2 from h) (by omega), fun _ => ?_⟩
      refine ⟨fun h => absurd (show w = 3 from h) (by omega), fun _ => ?_⟩
      refine ⟨fun h => absurd (show w = 4 from h) (by omega), fun _ => ?_⟩
      refine ⟨fun h => absurd (show w = 5 from h) (by omega), fun _ => ?_⟩
      refine ⟨show (1 : Int) = 0 ∨ 1 = 1 from by decide, ?_⟩
      exact k0 (by omega)
    · refine ⟨fun (hh_4 : w = 1) => ?_, fun (hh_4 : ¬ w = 1) => ?_⟩
      · refine ⟨show 0 ≤ (h : Int) ∧ h < 29 from by omega, ?_⟩
        refine ⟨fun h => absurd (show w = 2 from h) (by omega), fun _ => ?_⟩
        refine ⟨fun h => absurd (show w = 3 from h) (by omega), fun _ => ?_⟩
        refine ⟨fun h => absurd (show w = 4 from h) (by omega), fun _ => ?_⟩
        refine ⟨fun h => absurd (show w = 5 from h) (by omega), fun _ => ?_⟩
        refine ⟨show (1 : Int) = 0 ∨ 1 = 1 from by decide, ?_⟩
        exact k1 (by omega)
      · refine ⟨fun (hh_5 : w = 2) => ?_, fun (hh_5 : ¬ w = 2) => ?_⟩
        · refine ⟨show 0 ≤ (h : Int) ∧ h < 8 from by omega, ?_⟩
          refine ⟨fun h => absurd (show w = 3 from h) (by omega), fun _ => ?_⟩
          refine ⟨fun h => absurd (show w = 4 from h) (by omega), fun _ => ?_⟩
          refine ⟨fun h => absurd (show w = 5 from h) (by omega), fun _ => ?_⟩
          refine ⟨show (1 : Int) = 0 ∨ 1 = 1 from by decide, ?_⟩
          exact k2 (by omega)
        · refine ⟨fun (hh_6 : w = 3) => ?_, fun (hh_6 : ¬ w = 3) => ?_⟩
          · refine ⟨show 0 ≤ (h : Int) ∧ h < 8 from by omega, ?_⟩
            refine ⟨fun h => absurd (show w = 4 from h) (by omega), fun _ => ?_⟩
            refine ⟨fun h => absurd (show w = 5 from h) (by omega), fun _ => ?_⟩
            refine ⟨show (1 : Int) = 0 ∨ 1 = 1 from by decide, ?_⟩
            exact k3 (by omega)
          · refine ⟨fun (hh_7 : w = 4) => ?_, fun (hh_7 : ¬ w = 4) => ?_⟩
            · refine Or.inl ⟨show inr (0 + h) from by constructor <;> omega, ?_⟩
              refine ⟨show 0 ≤ ((0 + h) : Int) ∧ (0 + h) < 40 from by omega, ?_⟩
              refine ⟨fun h => absurd (show w = 5 from h) (by omega), fun _ => ?_⟩
              refine ⟨show (1 : Int) = 0 ∨ 1 = 1 from by decide, ?_⟩
              exact k4 (by omega)
            · refine ⟨fun _ => ?_, fun h => absurd (show w = 5 from by omega) h⟩
              refine Or.inl ⟨show inr (v + 1) from by constructor <;> omega, ?_⟩
              refine ⟨show 0 ≤ (h : Int) ∧ h < 8 from by omega, ?_⟩
              refine ⟨show (1 : Int) = 0 ∨ 1 = 1 from by decide, ?_⟩
              exact k5 (by omega)
  · refine ⟨fun _ => ?_, fun h => absurd (show (0 : Int) = 0 from by decide) h⟩
    refine ⟨show (0 : Int) = 0 ∨ 0 = 1 from by decide, ?_⟩
    exact k6 (by omega)
set_option maxRecDepth 100000 in
set_option maxHeartbeats 4000000 in
theorem c_signOf {c : Int} (hd : 1 ≤ d) (k0 : Q (some (iI (sgI c))) f g) : wq d 14 [iR 79, iI c] f g Q := by
  obtain ⟨d, rfl⟩ : ∃ e, d = e + 1 := ⟨d - 1, by omega⟩
  refine i_meth0 rfl rfl (fun O J hO => ?_)
  refine ⟨fun (hh_1 : c < 97) => ?_, fun (hh_1 : ¬ c < 97) => ?_⟩
  · refine ⟨fun (hh_2 : c = 44) => ?_, fun (hh_2 : ¬ c = 44) => ?_⟩
    · rw [show sgI c = 26 from by unfold sgI; (repeat (first | rw [if_pos (by omega)] | rw [if_neg (by omega)])) <;> omega] at k0
      exact k0
    · refine ⟨fun (hh_3 : c = 46) => ?_, fun (hh_3 : ¬ c = 46) => ?_⟩
      · rw [show sgI c = 27 from by unfold sgI; (repeat (first | rw [if_pos (by omega)] | rw [if_neg (by omega)])) <;> omega] at k0
        exact k0
      · refine ⟨fun (hh_4 : c = 59) => ?_, fun (hh_4 : ¬ c = 59) => ?_⟩
        · rw [show sgI c = 28 from by unfold sgI; (repeat (first | rw [if_pos (by omega)] | rw [if_neg (by omega)])) <;> omega] at k0
          exact k0
        · refine ⟨fun (hh_5 : c = 32) => ?_, fun (hh_5 : ¬ c = 32) => ?_⟩
          · rw [show sgI c = 29 from by unfold sgI; (repeat (first | rw [if_pos (by omega)] | rw [if_neg (by omega)])) <;> omega] at k0
            exact k0
          · refine ⟨fun (hh_6 : c = 10) => ?_, fun (hh_6 : ¬ c = 10) => ?_⟩
            · rw [show sgI c = 29 from by unfold sgI; (repeat (first | rw [if_pos (by omega)] | rw [if_neg (by omega)])) <;> omega] at k0
              exact k0
            · rw [show sgI c = (-1) from by unfold sgI; (repeat (first | rw [if_pos (by omega)] | rw [if_neg (by omega)])) <;> omega] at k0
              exact k0
  · refine ⟨fun (hh_7 : 122 < c) => ?_, fun (hh_7 : ¬ 122 < c) => ?_⟩
    · refine ⟨fun (hh_8 : c = 44) => ?_, fun (hh_8 : ¬ c = 44) => ?_⟩
      · rw [show sgI c = 26 from by unfold sgI; (repeat (first | rw [if_pos (by omega)] | rw [if_neg (by omega)])) <;> omega] at k0
        exact k0
      · refine ⟨fun (hh_9 : c = 46) => ?_, fun (hh_9 : ¬ c = 46) => ?_⟩
        · rw [show sgI c = 27 from by unfold sgI; (repeat (first | rw [if_pos (by omega)] | rw [if_neg (by omega)])) <;> omega] at k0
          exact k0
        · refine ⟨fun (hh_10 : c = 59) => ?_, fun (hh_10 : ¬ c = 59) => ?_⟩
          · rw [show sgI c = 28 from by unfold sgI; (repeat (first | rw [if_pos (by omega)] | rw [if_neg (by omega)])) <;> omega] at k0
            exact k0
          · refine ⟨fun (hh_11 : c = 32) => ?_, fun (hh_11 : ¬ c = 32) => ?_⟩
            · rw [show sgI c = 29 from by unfold sgI; (repeat (first | rw [if_pos (by omega)] | rw [if_neg (by omega)])) <;> omega] at k0
              exact k0
            · refine ⟨fun (hh_12 : c = 10) => ?_, fun (hh_12 : ¬ c = 10) => ?_⟩
              · rw [show sgI c = 29 from by unfold sgI; (repeat (first | rw [if_pos (by omega)] | rw [if_neg (by omega)])) <;> omega] at k0
                exact k0
              · rw [show sgI c = (-1) from by unfold sgI; (repeat (first | rw [if_pos (by omega)] | rw [if_neg (by omega)])) <;> omega] at k0
                exact k0
    · refine Or.inl ⟨show inr (c - 97) from by constructor <;> omega, ?_⟩
      rw [show sgI c = (c - 97) from by unfold sgI; (repeat (first | rw [if_pos (by omega)] | rw [if_neg (by omega)])) <;> omega] at k0
      exact k0
end C11
