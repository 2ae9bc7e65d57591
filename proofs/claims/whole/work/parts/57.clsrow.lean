section C7
variable {d : Nat} {f : iF} {g : iG} {Q : Option iv → iF → iG → Prop}
/-! ===== the class: rows, who can print, long words, facts ===== -/
def aC (f : iF) : Int → Bool := abl (f 8) (f 7) (f 4)
theorem aC_t {f : iF} {s : Int} : aC f s = true ↔ (0 ≤ s ∧ s < 29 ∧ f 8 s = 0 ∧ 0 ≤ f 7 s ∧ f 4 (f 7 s) = 0) := abl_t
theorem aC_f {f : iF} {s : Int} : aC f s = false ↔ ¬ (0 ≤ s ∧ s < 29 ∧ f 8 s = 0 ∧ 0 ≤ f 7 s ∧ f 4 (f 7 s) = 0) := abl_f
theorem aC_in {f : iF} (s : Int) (h : aC f s = true) : 0 ≤ s ∧ s < 29 := ⟨(aC_t.mp h).1, (aC_t.mp h).2.1⟩
def coB (f : iF) : Prop := (0 ≤ f (fv 1 0) 0 ∧ f (fv 1 0) 0 ≤ 8) ∧ ∀ s, 0 ≤ s → s < 29 → -1 ≤ f 7 s ∧ f 7 s < f (fv 1 0) 0
def abOK (f : iF) : Prop := ∀ s, 0 ≤ s → s < 29 → f 55 s = b1 (aC f s)
def rowB (n m : Int) (r : Int → Int) : Prop := (0 ≤ n ∧ n ≤ m) ∧ ∀ i, 0 ≤ i → i < n → 0 ≤ r i ∧ r i ≤ 29
def bit (m k : Int) : Bool := decide (¬ b_and (b_shr m k) 1 = 0)
theorem bit_t {m k : Int} : bit m k = true ↔ ¬ b_and (b_shr m k) 1 = 0 := by unfold bit; exact decide_eq_true_iff
theorem bit_f {m k : Int} : bit m k = false ↔ b_and (b_shr m k) 1 = 0 := by
  unfold bit
  rw [decide_eq_false_iff_not]
  exact Decidable.not_not
/-- what is not asked stays 0 -/
def fcC (m : Int) (fa : Int → Int) : Int → Int := fun k => if (k = 2 ∨ k = 3 ∨ k = 6 ∨ k = 7) ∧ bit m k = false then 0 else fa k
set_option maxRecDepth 100000 in
set_option maxHeartbeats 4000000 in
theorem k_get_pg {i : Int} (hd : 1 ≤ d) (hi : 0 ≤ i ∧ i < 60) (k0 : Q (some (iI (f 11 i))) f g) : wq d 171 [iR 10, iI i] f g Q := by
  obtain ⟨d, rfl⟩ : ∃ e, d = e + 1 := ⟨d - 1, by omega⟩
  refine i_meth0 rfl rfl (fun O J hO => ?_)
  refine ⟨fun h => absurd (show i < 0 from h) (by omega), fun _ => ?_⟩
  refine ⟨fun _ => ?_, fun h => absurd (show i < 60 from by omega) h⟩
  refine ⟨show 0 ≤ (i : Int) ∧ i < 60 from by omega, ?_⟩
  exact k0
set_option maxRecDepth 100000 in
set_option maxHeartbeats 4000000 in
theorem k_has_pg {i : Int} (hd : 1 ≤ d) (hn : (f (fv 10 1) 0) ≤ 60) (k0 : (0 ≤ i ∧ i < (f (fv 10 1) 0)) → Q (some (iI 1)) f g) (k1 : (¬ (0 ≤ i ∧ i < (f (fv 10 1) 0))) → Q (some (iI 0)) f g) : wq d 170 [iR 10, iI i] f g Q := by
  obtain ⟨d, rfl⟩ : ∃ e, d = e + 1 := ⟨d - 1, by omega⟩
  refine i_meth0 rfl rfl (fun O J hO => ?_)
  refine ⟨fun (hh_1 : i < 0) => ?_, fun (hh_1 : ¬ i < 0) => ?_⟩
  · refine ⟨show (0 : Int) = 0 ∨ 0 = 1 from by decide, ?_⟩
    exact k1 (by omega)
  · refine ⟨fun (hh_2 : i < f (fv 10 1) 0) => ?_, fun (hh_2 : ¬ i < f (fv 10 1) 0) => ?_⟩
    · refine ⟨fun (hh_3 : i < 60) => ?_, fun (hh_3 : ¬ i < 60) => ?_⟩
      · refine ⟨show (1 : Int) = 0 ∨ 1 = 1 from by decide, ?_⟩
        exact k0 (by omega)
      · refine ⟨show (0 : Int) = 0 ∨ 0 = 1 from by decide, ?_⟩
        exact k1 (by omega)
    · refine ⟨show (0 : Int) = 0 ∨ 0 = 1 from by decide, ?_⟩
      exact k1 (by omega)
set_option maxRecDepth 100000 in
set_option maxHeartbeats 4000000 in
theorem k_put_pg {i v : Int} (hd : 2 ≤ d) (hi : 0 ≤ i ∧ i < (f (fv 10 1) 0)) (hn : (f (fv 10 1) 0) ≤ 60) (k0 : Q none (wv f 11 i v) g) : wq d 172 [iR 10, iI i, iI v] f g Q := by
  obtain ⟨d, rfl⟩ : ∃ e, d = e + 1 := ⟨d - 1, by omega⟩
  refine i_meth0 rfl rfl (fun O J hO => ?_)
  refine hO (k_has_pg (by omega) (show (f (fv 10 1) 0) ≤ 60 from by omega) (fun (hh_1 : 0 ≤ i ∧ i < (f (fv 10 1) 0)) => ?_) (fun (hh_2 : ¬ (0 ≤ i ∧ i < (f (fv 10 1) 0))) => ?_))
  · refine ⟨fun h => absurd (show (1 : Int) = 0 from h) (by decide), fun _ => ?_⟩
    refine ⟨show 0 ≤ (i : Int) ∧ i < 60 from by omega, ?_⟩
    exact k0
  · exact absurd hi (by assumption)
set_option maxRecDepth 100000 in
set_option maxHeartbeats 4000000 in
theorem k_add_pg {v : Int} (hd : 1 ≤ d) (hn : 0 ≤ (f (fv 10 1) 0) ∧ (f (fv 10 1) 0) < 60) (k0 : Q none (wv (wv f 11 (f (fv 10 1) 0) v) (fv 10 1) 0 ((f (fv 10 1) 0) + 1)) g) : wq d 173 [iR 10, iI v] f g Q := by
  obtain ⟨d, rfl⟩ : ∃ e, d = e + 1 := ⟨d - 1, by omega⟩
  refine i_meth0 rfl rfl (fun O J hO => ?_)
  refine ⟨fun h => absurd (show f (fv 10 1) 0 < 0 from h) (by omega), fun _ => ?_⟩
  refine ⟨fun _ => ?_, fun h => absurd (show f (fv 10 1) 0 < 60 from by omega) h⟩
  refine ⟨show 0 ≤ (f (fv 10 1) 0 : Int) ∧ f (fv 10 1) 0 < 60 from by omega, ?_⟩
  refine Or.inl ⟨show inr ((f (fv 10 1) 0) + 1) from by constructor <;> omega, ?_⟩
  exact k0
set_option maxRecDepth 100000 in
set_option maxHeartbeats 4000000 in
theorem k_get_rm {i : Int} (hd : 1 ≤ d) (hi : 0 ≤ i ∧ i < 12) (k0 : Q (some (iI (f 65 i))) f g) : wq d 171 [iR 64, iI i] f g Q := by
  obtain ⟨d, rfl⟩ : ∃ e, d = e + 1 := ⟨d - 1, by omega⟩
  refine i_meth0 rfl rfl (fun O J hO => ?_)
  refine ⟨fun h => absurd (show i < 0 from h) (by omega), fun _ => ?_⟩
  refine ⟨fun _ => ?_, fun h => absurd (show i < 12 from by omega) h⟩
  refine ⟨show 0 ≤ (i : Int) ∧ i < 12 from by omega, ?_⟩
  exact k0
set_option maxRecDepth 100000 in
set_option maxHeartbeats 4000000 in
theorem k_has_rm {i : Int} (hd : 1 ≤ d) (hn : (f (fv 64 1) 0) ≤ 12) (k0 : (0 ≤ i ∧ i < (f (fv 64 1) 0)) → Q (some (iI 1)) f g) (k1 : (¬ (0 ≤ i ∧ i < (f (fv 64 1) 0))) → Q (some (iI 0)) f g) : wq d 170 [iR 64, iI i] f g Q := by
  obtain ⟨d, rfl⟩ : ∃ e, d = e + 1 := ⟨d - 1, by omega⟩
  refine i_meth0 rfl rfl (fun O J hO => ?_)
  refine ⟨fun (hh_1 : i < 0) => ?_, fun (hh_1 : ¬ i < 0) => ?_⟩
  · refine ⟨show (0 : Int) = 0 ∨ 0 = 1 from by decide, ?_⟩
    exact k1 (by omega)
  · refine ⟨fun (hh_2 : i < f (fv 64 1) 0) => ?_, fun (hh_2 : ¬ i < f (fv 64 1) 0) => ?_⟩
    · refine ⟨fun (hh_3 : i < 12) => ?_, fun (hh_3 : ¬ i < 12) => ?_⟩
      · refine ⟨show (1 : Int) = 0 ∨ 1 = 1 from by decide, ?_⟩
        exact k0 (by omega)
      · refine ⟨show (0 : Int) = 0 ∨ 0 = 1 from by decide, ?_⟩
        exact k1 (by omega)
    · refine ⟨show (0 : Int) = 0 ∨ 0 = 1 from by decide, ?_⟩
      exact k1 (by omega)
set_option maxRecDepth 100000 in
set_option maxHeartbeats 4000000 in
theorem k_put_rm {i v : Int} (hd : 2 ≤ d) (hi : 0 ≤ i ∧ i < (f (fv 64 1) 0)) (hn : (f (fv 64 1) 0) ≤ 12) (k0 : Q none (wv f 65 i v) g) : wq d 172 [iR 64, iI i, iI v] f g Q := by
  obtain ⟨d, rfl⟩ : ∃ e, d = e + 1 := ⟨d - 1, by omega⟩
  refine i_meth0 rfl rfl (fun O J hO => ?_)
  refine hO (k_has_rm (by omega) (show (f (fv 64 1) 0) ≤ 12 from by omega) (fun (hh_1 : 0 ≤ i ∧ i < (f (fv 64 1) 0)) => ?_) (fun (hh_2 : ¬ (0 ≤ i ∧ i < (f (fv 64 1) 0))) => ?_))
  · refine ⟨fun h => absurd (show (1 : Int) = 0 from h) (by decide), fun _ => ?_⟩
    refine ⟨show 0 ≤ (i : Int) ∧ i < 12 from by omega, ?_⟩
    exact k0
  · exact absurd hi (by assumption)
set_option maxRecDepth 100000 in
set_option maxHeartbeats 4000000 in
theorem k_add_rm {v : Int} (hd : 1 ≤ d) (hn : 0 ≤ (f (fv 64 1) 0) ∧ (f (fv 64 1) 0) < 12) (k0 : Q none (wv (wv f 65 (f (fv 64 1) 0) v) (fv 64 1) 0 ((f (fv 64 1) 0) + 1)) g) : wq d 173 [iR 64, iI v] f g Q := by
  obtain ⟨d, rfl⟩ : ∃ e, d = e + 1 := ⟨d - 1, by omega⟩
  refine i_meth0 rfl rfl (fun O J hO => ?_)
  refine ⟨fun h => absurd (show f (fv 64 1) 0 < 0 from h) (by omega), fun _ => ?_⟩
  refine ⟨fun _ => ?_, fun h => absurd (show f (fv 64 1) 0 < 12 from by omega) h⟩
  refine ⟨show 0 ≤ (f (fv 64 1) 0 : Int) ∧ f (fv 64 1) 0 < 12 from by omega, ?_⟩
  refine Or.inl ⟨show inr ((f (fv 64 1) 0) + 1) from by constructor <;> omega, ?_⟩
  exact k0
set_option maxRecDepth 100000 in
set_option maxHeartbeats 4000000 in
theorem k_get_bk {i : Int} (hd : 1 ≤ d) (hi : 0 ≤ i ∧ i < 60) (k0 : Q (some (iI (f 75 i))) f g) : wq d 171 [iR 74, iI i] f g Q := by
  obtain ⟨d, rfl⟩ : ∃ e, d = e + 1 := ⟨d - 1, by omega⟩
  refine i_meth0 rfl rfl (fun O J hO => ?_)
  refine ⟨fun h => absurd (show i < 0 from h) (by omega), fun _ => ?_⟩
  refine ⟨fun _ => ?_, fun h => absurd (show i < 60 from by omega) h⟩
  refine ⟨show 0 ≤ (i : Int) ∧ i < 60 from by omega, ?_⟩
  exact k0
set_option maxRecDepth 100000 in
set_option maxHeartbeats 4000000 in
theorem k_has_bk {i : Int} (hd : 1 ≤ d) (hn : (f (fv 74 1) 0) ≤ 60) (k0 : (0 ≤ i ∧ i < (f (fv 74 1) 0)) → Q (some (iI 1)) f g) (k1 : (¬ (0 ≤ i ∧ i < (f (fv 74 1) 0))) → Q (some (iI 0)) f g) : wq d 170 [iR 74, iI i] f g Q := by
  obtain ⟨d, rfl⟩ : ∃ e, d = e + 1 := ⟨d - 1, by omega⟩
  refine i_meth0 rfl rfl (fun O J hO => ?_)
  refine ⟨fun (hh_1 : i < 0) => ?_, fun (hh_1 : ¬ i < 0) => ?_⟩
  · refine ⟨show (0 : Int) = 0 ∨ 0 = 1 from by decide, ?_⟩
    exact k1 (by omega)
  · refine ⟨fun (hh_2 : i < f (fv 74 1) 0) => ?_, fun (hh_2 : ¬ i < f (fv 74 1) 0) => ?_⟩
    · refine ⟨fun (hh_3 : i < 60) => ?_, fun (hh_3 : ¬ i < 60) => ?_⟩
      · refine ⟨show (1 : Int) = 0 ∨ 1 = 1 from by decide, ?_⟩
        exact k0 (by omega)
      · refine ⟨show (0 : Int) = 0 ∨ 0 = 1 from by decide, ?_⟩
        exact k1 (by omega)
    · refine ⟨show (0 : Int) = 0 ∨ 0 = 1 from by decide, ?_⟩
      exact k1 (by omega)
set_option maxRecDepth 100000 in
set_option maxHeartbeats 4000000 in
theorem k_put_bk {i v : Int} (hd : 2 ≤ d) (hi : 0 ≤ i ∧ i < (f (fv 74 1) 0)) (hn : (f (fv 74 1) 0) ≤ 60) (k0 : Q none (wv f 75 i v) g) : wq d 172 [iR 74, iI i, iI v] f g Q := by
  obtain ⟨d, rfl⟩ : ∃ e, d = e + 1 := ⟨d - 1, by omega⟩
  refine i_meth0 rfl rfl (fun O J hO => ?_)
  refine hO (k_has_bk (by omega) (show (f (fv 74 1) 0) ≤ 60 from by omega) (fun (hh_1 : 0 ≤ i ∧ i < (f (fv 74 1) 0)) => ?_) (fun (hh_2 : ¬ (0 ≤ i ∧ i < (f (fv 74 1) 0))) => ?_))
  · refine ⟨fun h => absurd (show (1 : Int) = 0 from h) (by decide), fun _ => ?_⟩
    refine ⟨show 0 ≤ (i : Int) ∧ i < 60 from by omega, ?_⟩
    exact k0
  · exact absurd hi (by assumption)
set_option maxRecDepth 100000 in
set_option maxHeartbeats 4000000 in
theorem k_add_bk {v : Int} (hd : 1 ≤ d) (hn : 0 ≤ (f (fv 74 1) 0) ∧ (f (fv 74 1) 0) < 60) (k0 : Q none (wv (wv f 75 (f (fv 74 1) 0) v) (fv 74 1) 0 ((f (fv 74 1) 0) + 1)) g) : wq d 173 [iR 74, iI v] f g Q := by
  obtain ⟨d, rfl⟩ : ∃ e, d = e + 1 := ⟨d - 1, by omega⟩
  refine i_meth0 rfl rfl (fun O J hO => ?_)
  refine ⟨fun h => absurd (show f (fv 74 1) 0 < 0 from h) (by omega), fun _ => ?_⟩
  refine ⟨fun _ => ?_, fun h => absurd (show f (fv 74 1) 0 < 60 from by omega) h⟩
  refine ⟨show 0 ≤ (f (fv 74 1) 0 : Int) ∧ f (fv 74 1) 0 < 60 from by omega, ?_⟩
  refine Or.inl ⟨show inr ((f (fv 74 1) 0) + 1) from by constructor <;> omega, ?_⟩
  exact k0
set_option maxRecDepth 100000 in
set_option maxHeartbeats 4000000 in
theorem k_get_tp {i : Int} (hd : 1 ≤ d) (hi : 0 ≤ i ∧ i < 400) (k0 : Q (some (iI (f 40 i))) f g) : wq d 171 [iR 39, iI i] f g Q := by
  obtain ⟨d, rfl⟩ : ∃ e, d = e + 1 := ⟨d - 1, by omega⟩
  refine i_meth0 rfl rfl (fun O J hO => ?_)
  refine ⟨fun h => absurd (show i < 0 from h) (by omega), fun _ => ?_⟩
  refine ⟨fun _ => ?_, fun h => absurd (show i < 400 from by omega) h⟩
  refine ⟨show 0 ≤ (i : Int) ∧ i < 400 from by omega, ?_⟩
  exact k0
set_option maxRecDepth 100000 in
set_option maxHeartbeats 4000000 in
theorem k_has_tp {i : Int} (hd : 1 ≤ d) (hn : (f (fv 39 1) 0) ≤ 400) (k0 : (0 ≤ i ∧ i < (f (fv 39 1) 0)) → Q (some (iI 1)) f g) (k1 : (¬ (0 ≤ i ∧ i < (f (fv 39 1) 0))) → Q (some (iI 0)) f g) : wq d 170 [iR 39, iI i] f g Q := by
  obtain ⟨d, rfl⟩ : ∃ e, d = e + 1 := ⟨d - 1, by omega⟩
  refine i_meth0 rfl rfl (fun O J hO => ?_)
  refine ⟨fun (hh_1 : i < 0) => ?_, fun (hh_1 : ¬ i < 0) => ?_⟩
  · refine ⟨show (0 : Int) = 0 ∨ 0 = 1 from by decide, ?_⟩
    exact k1 (by omega)
  · refine ⟨fun (hh_2 : i < f (fv 39 1) 0) => ?_, fun (hh_2 : ¬ i < f (fv 39 1) 0) => ?_⟩
    · refine ⟨fun (hh_3 : i < 400) => ?_, fun (hh_3 : ¬ i < 400) => ?_⟩
      · refine ⟨show (1 : Int) = 0 ∨ 1 = 1 from by decide, ?_⟩
        exact k0 (by omega)
      · refine ⟨show (0 : Int) = 0 ∨ 0 = 1 from by decide, ?_⟩
        exact k1 (by omega)
    · refine ⟨show (0 : Int) = 0 ∨ 0 = 1 from by decide, ?_⟩
      exact k1 (by omega)
set_option maxRecDepth 100000 in
set_option maxHeartbeats 4000000 in
theorem k_put_tp {i v : Int} (hd : 2 ≤ d) (hi : 0 ≤ i ∧ i < (f (fv 39 1) 0)) (hn : (f (fv 39 1) 0) ≤ 400) (k0 : Q none (wv f 40 i v) g) : wq d 172 [iR 39, iI i, iI v] f g Q := by
  obtain ⟨d, rfl⟩ : ∃ e, d = e + 1 := ⟨d - 1, by omega⟩
  refine i_meth0 rfl rfl (fun O J hO => ?_)
  refine hO (k_has_tp (by omega) (show (f (fv 39 1) 0) ≤ 400 from by omega) (fun (hh_1 : 0 ≤ i ∧ i < (f (fv 39 1) 0)) => ?_) (fun (hh_2 : ¬ (0 ≤ i ∧ i < (f (fv 39 1) 0))) => ?_))
  · refine ⟨fun h => absurd (show (1 : Int) = 0 from h) (by decide), fun _ => ?_⟩
    refine ⟨show 0 ≤ (i : Int) ∧ i < 400 from by omega, ?_⟩
    exact k0
  · exact absurd hi (by assumption)
set_option maxRecDepth 100000 in
set_option maxHeartbeats 4000000 in
theorem k_add_tp {v : Int} (hd : 1 ≤ d) (hn : 0 ≤ (f (fv 39 1) 0) ∧ (f (fv 39 1) 0) < 400) (k0 : Q none (wv (wv f 40 (f (fv 39 1) 0) v) (fv 39 1) 0 ((f (fv 39 1) 0) + 1)) g) : wq d 173 [iR 39, iI v] f g Q := by
  obtain ⟨d, rfl⟩ : ∃ e, d = e + 1 := ⟨d - 1, by omega⟩
  refine i_meth0 rfl rfl (fun O J hO => ?_)
  refine ⟨fun h => absurd (show f (fv 39 1) 0 < 0 from h) (by omega), fun _ => ?_⟩
  refine ⟨fun _ => ?_, fun h => absurd (show f (fv 39 1) 0 < 400 from by omega) h⟩
  refine ⟨show 0 ≤ (f (fv 39 1) 0 : Int) ∧ f (fv 39 1) 0 < 400 from by omega, ?_⟩
  refine Or.inl ⟨show inr ((f (fv 39 1) 0) + 1) from by constructor <;> omega, ?_⟩
  exact k0
set_option maxRecDepth 100000 in
set_option maxHeartbeats 4000000 in
theorem k_canP {s : Int} (hd : 2 ≤ d) (hcb : (coB f)) (k0 : ((aC f) s = true) → Q (some (iI 1)) f g) (k1 : ((aC f) s = false) → Q (some (iI 0)) f g) : wq d 101 [iR 1, iI s] f g Q := by
  obtain ⟨d, rfl⟩ : ∃ e, d = e + 1 := ⟨d - 1, by omega⟩
  refine i_meth0 rfl rfl (fun O J hO => ?_)
  have hcb1 := hcb.1
  refine hO (k_isSign (by omega) (fun (hh_1 : 0 ≤ s) (hh_2 : s < 29) => ?_) (fun (hh_3 : ¬ (0 ≤ s ∧ s < 29)) => ?_))
  · have hcs := hcb.2 s (by omega) (by omega)
    refine ⟨fun h => absurd (show (1 : Int) = 0 from h) (by decide), fun _ => ?_⟩
    refine ⟨show 0 ≤ (s : Int) ∧ s < 29 from by omega, ?_⟩
    refine ⟨fun (hh_4 : f 8 s = 0) => ?_, fun (hh_4 : ¬ f 8 s = 0) => ?_⟩
    · refine ⟨show 0 ≤ (s : Int) ∧ s < 29 from by omega, ?_⟩
      refine hO (k_has (by omega) (fun (hh_5 : 0 ≤ (f 7 s)) (hh_6 : (f 7 s) < (f (fv 1 0) 0)) (hh_7 : (f 7 s) < 8) => ?_) (fun (hh_8 : ¬ (0 ≤ (f 7 s) ∧ (f 7 s) < (f (fv 1 0) 0) ∧ (f 7 s) < 8)) => ?_))
      · refine ⟨fun h => absurd (show (1 : Int) = 0 from h) (by decide), fun _ => ?_⟩
        refine ⟨show 0 ≤ (s : Int) ∧ s < 29 from by omega, ?_⟩
        refine ⟨show 0 ≤ (f 7 s : Int) ∧ f 7 s < 8 from by omega, ?_⟩
        refine ⟨fun (hh_9 : f 4 (f 7 s) = 0) => ?_, fun (hh_9 : ¬ f 4 (f 7 s) = 0) => ?_⟩
        · refine ⟨show (1 : Int) = 0 ∨ 1 = 1 from by decide, ?_⟩
          exact k0 (by exact aC_t.mpr ⟨by omega, by omega, by omega, by omega, by omega⟩)
        · refine ⟨show (0 : Int) = 0 ∨ 0 = 1 from by decide, ?_⟩
          exact k1 (by exact aC_f.mpr (by omega))
      · refine ⟨fun _ => ?_, fun h => absurd (show (0 : Int) = 0 from by decide) h⟩
        refine ⟨show (0 : Int) = 0 ∨ 0 = 1 from by decide, ?_⟩
        exact k1 (by exact aC_f.mpr (by omega))
    · refine ⟨show (0 : Int) = 0 ∨ 0 = 1 from by decide, ?_⟩
      exact k1 (by exact aC_f.mpr (by omega))
  · refine ⟨fun _ => ?_, fun h => absurd (show (0 : Int) = 0 from by decide) h⟩
    refine ⟨show (0 : Int) = 0 ∨ 0 = 1 from by decide, ?_⟩
    exact k1 (by exact aC_f.mpr (by omega))
set_option maxRecDepth 100000 in
set_option maxHeartbeats 4000000 in
theorem k_lookOver (hd : 3 ≤ d) (hcb : (coB f)) (k0 : ∀ f1 : iF, (∀ s, 0 ≤ s → s < 29 → f1 55 s = b1 ((aC f) s)) → Q none (mx [55] f f1) g) : wq d 140 [iR 54] f g Q := by
  obtain ⟨d, rfl⟩ : ∃ e, d = e + 1 := ⟨d - 1, by omega⟩
  refine i_meth [(2, 2)] (fun n j lv st f' g' => (j = 2 ∧ ∃ (s : Int) (f1 : iF), lv = [some (iR 54), some (iI s)] ∧ st = [] ∧ f' = (mx [55] f f1) ∧ g = g' ∧ (0 ≤ s ∧ s ≤ 29) ∧ (∀ k, 0 ≤ k → k < s → f1 55 k = b1 (aC f k)) ∧ (n : Int) = 29 - s)) 29 (by omega) rfl rfl (fun n j lv st f' g' hn hI O J hO hF hB => ?_) (fun hvs hin O J hO hF => ?_)
  · obtain ⟨rfl, s, f1, rfl, rfl, rfl, rfl, hs, hz, hm⟩ := hI
    refine ⟨fun (hh_1 : s < 29) => ?_, fun (hh_1 : ¬ s < 29) => ?_⟩
    · refine hO (k_canP (by omega) (show (coB f) from hcb) (fun (hh_2 : (aC f) s = true) => ?_) (fun (hh_3 : (aC f) s = false) => ?_))
      · refine ⟨show 0 ≤ (s : Int) ∧ s < 29 from by omega, ?_⟩
        refine ⟨show (1 : Int) = 0 ∨ 1 = 1 from by decide, ?_⟩
        refine ⟨show inr (s + 1) from by constructor <;> omega, ?_⟩
        refine hB (29 - (s + 1) : Int).toNat ?_ ⟨rfl, (s + 1), (wv f1 55 s 1), rfl, rfl, (mx_wv rfl rfl), rfl, ?_, ?_, ?_⟩
        · omega
        · omega
        · intro k h0 h1
          rw [wv_i]
          by_cases e : k = s
          · rw [if_pos e, e, ‹aC f s = _›]; rfl
          · rw [if_neg e]; exact hz k h0 (by omega)
        · omega
      · refine ⟨show 0 ≤ (s : Int) ∧ s < 29 from by omega, ?_⟩
        refine ⟨show (0 : Int) = 0 ∨ 0 = 1 from by decide, ?_⟩
        refine ⟨show inr (s + 1) from by constructor <;> omega, ?_⟩
        refine hB (29 - (s + 1) : Int).toNat ?_ ⟨rfl, (s + 1), (wv f1 55 s 0), rfl, rfl, (mx_wv rfl rfl), rfl, ?_, ?_, ?_⟩
        · omega
        · omega
        · intro k h0 h1
          rw [wv_i]
          by_cases e : k = s
          · rw [if_pos e, e, ‹aC f s = _›]; rfl
          · rw [if_neg e]; exact hz k h0 (by omega)
        · omega
    · exact k0 f1 (fun k h0 h1 => hz k h0 (by omega))
  · refine hF (29 - 0 : Int).toNat ?_ ⟨rfl, 0, f, rfl, rfl, mx_rf, rfl, ?_, ?_, ?_⟩
    · omega
    · omega
    · intro k h0 h1; omega
    · omega
set_option maxRecDepth 100000 in
set_option maxHeartbeats 4000000 in
theorem k_lookAt {s : Int} (hd : 3 ≤ d) (hs : 0 ≤ s ∧ s < 29) (hcb : (coB f)) (k0 : Q none (wv f 55 s (b1 ((aC f) s))) g) : wq d 141 [iR 54, iI s] f g Q := by
  obtain ⟨d, rfl⟩ : ∃ e, d = e + 1 := ⟨d - 1, by omega⟩
  refine i_meth0 rfl rfl (fun O J hO => ?_)
  refine hO (k_isSign (by omega) (fun (hh_1 : 0 ≤ s) (hh_2 : s < 29) => ?_) (fun (hh_3 : ¬ (0 ≤ s ∧ s < 29)) => ?_))
  · refine ⟨fun h => absurd (show (1 : Int) = 0 from h) (by decide), fun _ => ?_⟩
    refine hO (k_canP (by omega) (show (coB f) from hcb) (fun (hh_4 : (aC f) s = true) => ?_) (fun (hh_5 : (aC f) s = false) => ?_))
    · rw [hh_4] at k0
      refine ⟨show 0 ≤ (s : Int) ∧ s < 29 from by omega, ?_⟩
      refine ⟨show (1 : Int) = 0 ∨ 1 = 1 from by decide, ?_⟩
      exact k0
    · rw [hh_5] at k0
      refine ⟨show 0 ≤ (s : Int) ∧ s < 29 from by omega, ?_⟩
      refine ⟨show (0 : Int) = 0 ∨ 0 = 1 from by decide, ?_⟩
      exact k0
  · exact absurd hs (by assumption)
set_option maxRecDepth 100000 in
set_option maxHeartbeats 4000000 in
theorem k_isAble {s : Int} (hd : 1 ≤ d) (hab : (abOK f)) (k0 : ((aC f) s = true) → Q (some (iI 1)) f g) (k1 : ((aC f) s = false) → Q (some (iI 0)) f g) : wq d 142 [iR 54, iI s] f g Q := by
  obtain ⟨d, rfl⟩ : ∃ e, d = e + 1 := ⟨d - 1, by omega⟩
  refine i_meth0 rfl rfl (fun O J hO => ?_)
  refine ⟨fun (hh_1 : s < 0) => ?_, fun (hh_1 : ¬ s < 0) => ?_⟩
  · refine ⟨show (0 : Int) = 0 ∨ 0 = 1 from by decide, ?_⟩
    exact k1 (by cases e : aC f s with
              | false => rfl
              | true =>
                have := aC_in s e
                first | omega | (rw [e, b1_t] at hs; omega))
  · refine ⟨fun (hh_2 : s < 29) => ?_, fun (hh_2 : ¬ s < 29) => ?_⟩
    · have hs := hab s (by omega) (by omega)
      refine ⟨show 0 ≤ (s : Int) ∧ s < 29 from by omega, ?_⟩
      refine ⟨fun (hh_3 : f 55 s = 0) => ?_, fun (hh_3 : ¬ f 55 s = 0) => ?_⟩
      · refine ⟨show (0 : Int) = 0 ∨ 0 = 1 from by decide, ?_⟩
        exact k1 (by cases e : aC f s with
                  | false => rfl
                  | true =>
                    have := aC_in s e
                    first | omega | (rw [e, b1_t] at hs; omega))
      · refine ⟨show (1 : Int) = 0 ∨ 1 = 1 from by decide, ?_⟩
        exact k0 (by cases e : aC f s with
                  | true => rfl
                  | false => rw [e, b1_f] at hs; omega)
    · refine ⟨show (0 : Int) = 0 ∨ 0 = 1 from by decide, ?_⟩
      exact k1 (by cases e : aC f s with
                | false => rfl
                | true =>
                  have := aC_in s e
                  first | omega | (rw [e, b1_t] at hs; omega))
set_option maxRecDepth 100000 in
set_option maxHeartbeats 4000000 in
theorem k_asks {w : Int} (hd : 1 ≤ d) (k0 : (bit (f (fv 15 5) 0) w = true) → Q (some (iI 1)) f g) (k1 : (bit (f (fv 15 5) 0) w = false) → Q (some (iI 0)) f g) : wq d 113 [iR 15, iI w] f g Q := by
  obtain ⟨d, rfl⟩ : ∃ e, d = e + 1 := ⟨d - 1, by omega⟩
  refine i_meth0 rfl rfl (fun O J hO => ?_)
  refine ⟨fun (hh_1 : (b_and (b_shr (f (fv 15 5) 0) w) 1) = 0) => ?_, fun (hh_1 : ¬ (b_and (b_shr (f (fv 15 5) 0) w) 1) = 0) => ?_⟩
  · refine ⟨show (0 : Int) = 0 ∨ 0 = 1 from by decide, ?_⟩
    exact k1 (by exact bit_f.mpr (by assumption))
  · refine ⟨show (1 : Int) = 0 ∨ 1 = 1 from by decide, ?_⟩
    exact k0 (by exact bit_t.mpr (by assumption))
set_option maxRecDepth 100000 in
set_option maxHeartbeats 4000000 in
theorem k_ahead_pg {i s : Int} (hd : 1 ≤ d) (hi : 0 ≤ i ∧ i < 60) (k0 : Q (some (iI (cI (fun k => decide ((f 11 k) = s)) i))) f g) : wq d 148 [iR 10, iI i, iI s] f g Q := by
  obtain ⟨d, rfl⟩ : ∃ e, d = e + 1 := ⟨d - 1, by omega⟩
  refine i_meth [(4, 5)] (fun n j lv st f' g' => (j = 4 ∧ ∃ (c : Int) (k : Int), lv = [some (iR 10), some (iI i), some (iI s), some (iI c), some (iI k)] ∧ st = [] ∧ f = f' ∧ g = g' ∧ (0 ≤ k ∧ k ≤ i ∧ 0 ≤ c ∧ c ≤ k) ∧ (c = cI (fun k => decide ((f 11 k) = s)) k) ∧ (n : Int) = i - k)) 60 (by omega) rfl rfl (fun n j lv st f' g' hn hI O J hO hF hB => ?_) (fun hvs hin O J hO hF => ?_)
  · obtain ⟨rfl, c, k, rfl, rfl, rfl, rfl, hk, hc, hm⟩ := hI
    refine ⟨fun (hh_1 : k < i) => ?_, fun (hh_1 : ¬ k < i) => ?_⟩
    · refine ⟨fun _ => ?_, fun h => absurd (show k < 60 from by omega) h⟩
      refine ⟨show 0 ≤ (k : Int) ∧ k < 60 from by omega, ?_⟩
      refine ⟨fun (hh_2 : f 11 k = s) => ?_, fun (hh_2 : ¬ f 11 k = s) => ?_⟩
      · refine ⟨show inr (c + 1) from by constructor <;> omega, ?_⟩
        refine ⟨show inr (k + 1) from by constructor <;> omega, ?_⟩
        refine hB (i - (k + 1) : Int).toNat ?_ ⟨rfl, (c + 1), (k + 1), rfl, rfl, rfl, rfl, ?_, ?_, ?_⟩
        · omega
        · omega
        · first | (rw [cI_t (by omega) (decide_eq_true ‹_ = _›)]; omega) | (rw [cI_f (by omega) (decide_eq_false ‹_›)]; omega)
        · omega
      · refine ⟨show inr (k + 1) from by constructor <;> omega, ?_⟩
        refine hB (i - (k + 1) : Int).toNat ?_ ⟨rfl, c, (k + 1), rfl, rfl, rfl, rfl, ?_, ?_, ?_⟩
        · omega
        · omega
        · first | (rw [cI_t (by omega) (decide_eq_true ‹_ = _›)]; omega) | (rw [cI_f (by omega) (decide_eq_false ‹_›)]; omega)
        · omega
    · rw [show k = i by omega] at hc
      rw [← hc] at k0
      exact k0
  · refine hF (i - 0 : Int).toNat ?_ ⟨rfl, 0, 0, rfl, rfl, rfl, rfl, ?_, ?_, ?_⟩
    · omega
    · omega
    · rfl
    · omega
set_option maxRecDepth 100000 in
set_option maxHeartbeats 4000000 in
theorem k_measure_pg {fm : Int} (hd : 2 ≤ d) (hfm : 0 ≤ fm ∧ fm ≤ (f (fv 10 1) 0)) (hst : fm = 0 ∨ isL (f 11) (f (fv 10 1) 0) (fm - 1) = false) (hrw : rowB (f (fv 10 1) 0) 60 (f 11)) (hab : (abOK f)) (k0 : ∀ f1 : iF, (bit (f (fv 15 5) 0) 2 = true → ∀ j, fm ≤ j → j < (f (fv 10 1) 0) → f1 56 j = lgI (aC f) (f 11) (f (fv 10 1) 0) j) → (∀ j, 0 ≤ j → j < fm → f1 56 j = (f 56 j)) → Q none (mx [56] f f1) g) : wq d 143 [iR 54, iR 10, iI fm] f g Q := by
  obtain ⟨d, rfl⟩ : ∃ e, d = e + 1 := ⟨d - 1, by omega⟩
  refine i_meth [(20, 7), (46, 8)] (fun n j lv st f' g' => (j = 20 ∧ ∃ (en : Int) (bg : Int) (ct : Int) (i : Int) (f1 : iF), lv = [some (iR 54), some (iR 10), some (iI fm), some (iI en), some (iI bg), some (iI ct), some (iI i)] ∧ st = [] ∧ f' = (mx [56] f f1) ∧ g = g' ∧ (en = (f (fv 10 1) 0)) ∧ (∀ j, 0 ≤ j → j < fm → f1 56 j = f 56 j) ∧ (∀ j, fm ≤ j → j < bg → j < en → f1 56 j = lgI (aC f) (f 11) (f (fv 10 1) 0) j) ∧ (fm ≤ bg ∧ bg ≤ i ∧ i ≤ en + 1 ∧ 0 ≤ ct ∧ ct ≤ i) ∧ (en < i → bg = i) ∧ (i ≤ en → ct = lwI (aC f) (f 11) (f (fv 10 1) 0) i) ∧ (∀ j, bg ≤ j → j < i → isL (f 11) (f (fv 10 1) 0) j = true) ∧ (n : Int) = ((f (fv 10 1) 0) + 1 - i) * 64) ∨ (j = 46 ∧ ∃ (en : Int) (bg : Int) (ct : Int) (i : Int) (j : Int) (f1 : iF), lv = [some (iR 54), some (iR 10), some (iI fm), some (iI en), some (iI bg), some (iI ct), some (iI i), some (iI j)] ∧ st = [] ∧ f' = (mx [56] f f1) ∧ g = g' ∧ (en = (f (fv 10 1) 0)) ∧ (∀ j, 0 ≤ j → j < fm → f1 56 j = f 56 j) ∧ (∀ j, fm ≤ j → j < bg → j < en → f1 56 j = lgI (aC f) (f 11) (f (fv 10 1) 0) j) ∧ (fm ≤ bg ∧ bg ≤ j ∧ j ≤ i ∧ i ≤ en ∧ 0 ≤ ct ∧ ct ≤ i) ∧ (ct = lwI (aC f) (f 11) (f (fv 10 1) 0) i) ∧ (∀ j, bg ≤ j → j < i → isL (f 11) (f (fv 10 1) 0) j = true) ∧ (isL (f 11) (f (fv 10 1) 0) i = false) ∧ (∀ k, bg ≤ k → k < j → f1 56 k = ct) ∧ (n : Int) = ((f (fv 10 1) 0) + 1 - i) * 64 - (j - bg))) 3904 (by omega) rfl rfl (fun n j lv st f' g' hn hI O J hO hF hB => ?_) (fun hvs hin O J hO hF => ?_)
  · rcases hI with hI | hI
    · obtain ⟨rfl, en, bg, ct, i, f1, rfl, rfl, rfl, rfl, hen, hlo, hlg, hb, hbe, hct, hle, hm⟩ := hI
      have hrw1 := hrw.1
      refine ⟨fun (hh_1 : en < i) => ?_, fun (hh_1 : ¬ en < i) => ?_⟩
      · exact k0 f1 (fun _ j h0 h1 => hlg j h0 (by omega) (by omega)) hlo
      · refine ⟨fun (hh_2 : i < en) => ?_, fun (hh_2 : ¬ i < en) => ?_⟩
        · have hri := hrw.2 i (by omega) (by omega)
          refine hO (k_get_pg (by omega) (show 0 ≤ i ∧ i < 60 from by omega) ?_)
          refine hO (k_isLetter (by omega) (fun (hh_3 : 0 ≤ (f 11 i)) (hh_4 : (f 11 i) < 26) => ?_) (fun (hh_5 : ¬ (0 ≤ (f 11 i) ∧ (f 11 i) < 26)) => ?_))
          · have hli : isL (f 11) (f (fv 10 1) 0) i = true := isL_t.mpr ⟨by omega, by omega, by omega⟩
            refine ⟨fun h => absurd (show (1 : Int) = 0 from h) (by decide), fun _ => ?_⟩
            refine hO (k_get_pg (by omega) (show 0 ≤ i ∧ i < 60 from by omega) ?_)
            refine hO (k_isAble (by omega) (show (abOK f) from hab) (fun (hh_6 : (aC f) (f 11 i) = true) => ?_) (fun (hh_7 : (aC f) (f 11 i) = false) => ?_))
            · have hab0 := hh_6
              refine ⟨fun h => absurd (show (1 : Int) = 0 from h) (by decide), fun _ => ?_⟩
              refine Or.inl ⟨show inr (ct + 1) from by constructor <;> omega, ?_⟩
              refine ⟨show inr (i + 1) from by constructor <;> omega, ?_⟩
              refine hB (((f (fv 10 1) 0) + 1 - (i + 1)) * 64 : Int).toNat ?_ (Or.inl ⟨rfl, en, bg, (ct + 1), (i + 1), f1, rfl, rfl, rfl, rfl, ?_, ?_, ?_, ?_, ?_, ?_, ?_, ?_⟩)
              · omega
              · omega
              · exact hlo
              · exact hlg
              · omega
              · omega
              · intro h0
                rw [lwI_t (by omega) hli, hct (by omega), hab0]; rfl
              · intro j2 h0 h1
                by_cases e : j2 = i
                · rw [e]; exact hli
                · exact hle j2 h0 (by omega)
              · omega
            · have hab0 := hh_7
              refine ⟨fun _ => ?_, fun h => absurd (show (0 : Int) = 0 from by decide) h⟩
              refine Or.inl ⟨show inr (ct + 0) from by constructor <;> omega, ?_⟩
              refine ⟨show inr (i + 1) from by constructor <;> omega, ?_⟩
              refine hB (((f (fv 10 1) 0) + 1 - (i + 1)) * 64 : Int).toNat ?_ (Or.inl ⟨rfl, en, bg, (ct + 0), (i + 1), f1, rfl, rfl, rfl, rfl, ?_, ?_, ?_, ?_, ?_, ?_, ?_, ?_⟩)
              · omega
              · omega
              · exact hlo
              · exact hlg
              · omega
              · omega
              · intro h0
                rw [lwI_t (by omega) hli, hct (by omega), hab0]; rfl
              · intro j2 h0 h1
                by_cases e : j2 = i
                · rw [e]; exact hli
                · exact hle j2 h0 (by omega)
              · omega
          · refine ⟨fun _ => ?_, fun h => absurd (show (0 : Int) = 0 from by decide) h⟩
            refine hF (((f (fv 10 1) 0) + 1 - i) * 64 - (bg - bg) : Int).toNat ?_ (Or.inr (⟨rfl, en, bg, ct, i, bg, f1, rfl, rfl, rfl, rfl, ?_, ?_, ?_, ?_, ?_, ?_, ?_, ?_, ?_⟩))
            · omega
            · omega
            · exact hlo
            · exact hlg
            · omega
            · exact hct (by omega)
            · exact hle
            · exact isL_f.mpr (by omega)
            · intro k h0 h1; omega
            · omega
        · refine hF (((f (fv 10 1) 0) + 1 - i) * 64 - (bg - bg) : Int).toNat ?_ (Or.inr (⟨rfl, en, bg, ct, i, bg, f1, rfl, rfl, rfl, rfl, ?_, ?_, ?_, ?_, ?_, ?_, ?_, ?_, ?_⟩))
          · omega
          · omega
          · exact hlo
          · exact hlg
          · omega
          · exact hct (by omega)
          · exact hle
          · exact isL_f.mpr (by omega)
          · intro k h0 h1; omega
          · omega
    · obtain ⟨rfl, en, bg, ct, i, j, f1, rfl, rfl, rfl, rfl, hen, hlo, hlg, hb, hct, hle, hnl, hj, hm⟩ := hI
      have hrw1 := hrw.1
      have hrun : ∀ k, bg ≤ k → k < i → lgI (aC f) (f 11) (f (fv 10 1) 0) k = lwI (aC f) (f 11) (f (fv 10 1) 0) i := by
                intro k h0 h1
                have h2 := tot_run (ab := aC f) (row := (f 11)) (n := (f (fv 10 1) 0)) (a := k) (by omega) (i - k).toNat i (by omega) (fun q h3 h4 => hle q (by omega) h4)
                rw [rrI_f hnl] at h2
                unfold lgI
                rw [if_pos (hle k h0 h1)]
                omega
      refine ⟨fun (hh_8 : j < i) => ?_, fun (hh_8 : ¬ j < i) => ?_⟩
      · refine ⟨show 0 ≤ (j : Int) ∧ j < 60 from by omega, ?_⟩
        refine ⟨show inr (j + 1) from by constructor <;> omega, ?_⟩
        refine hB (((f (fv 10 1) 0) + 1 - i) * 64 - ((j + 1) - bg) : Int).toNat ?_ (Or.inr (⟨rfl, en, bg, ct, i, (j + 1), (wv f1 56 j ct), rfl, rfl, (mx_wv rfl rfl), rfl, ?_, ?_, ?_, ?_, ?_, ?_, ?_, ?_, ?_⟩))
        · omega
        · omega
        · intro j2 h0 h1
          rw [wv_k (by omega)]
          exact hlo j2 h0 h1
        · intro j2 h0 h1 h2
          rw [wv_k (by omega)]
          exact hlg j2 h0 h1 h2
        · omega
        · exact hct
        · exact hle
        · exact hnl
        · intro k h0 h1
          rw [wv_i]
          by_cases e : k = j
          · rw [if_pos e]
          · rw [if_neg e]; exact hj k h0 (by omega)
        · omega
      · refine ⟨fun (hh_9 : i < en) => ?_, fun (hh_9 : ¬ i < en) => ?_⟩
        · refine ⟨show 0 ≤ (i : Int) ∧ i < 60 from by omega, ?_⟩
          refine Or.inl ⟨show inr (i + 1) from by constructor <;> omega, ?_⟩
          refine ⟨show inr (i + 1) from by constructor <;> omega, ?_⟩
          refine hB (((f (fv 10 1) 0) + 1 - (i + 1)) * 64 : Int).toNat ?_ (Or.inl ⟨rfl, en, (i + 1), 0, (i + 1), (wv f1 56 i 0), rfl, rfl, (mx_wv rfl rfl), rfl, ?_, ?_, ?_, ?_, ?_, ?_, ?_, ?_⟩)
          · omega
          · omega
          · intro j2 h0 h1
            rw [wv_k (by omega)]
            exact hlo j2 h0 h1
          · intro j2 h0 h1 h2
            rw [wv_i]
            by_cases e0 : j2 = i
            · rw [if_pos e0, e0]; unfold lgI; rw [hnl]; rfl
            · rw [if_neg e0]
              by_cases e : j2 < bg
              · exact hlg j2 h0 e h2
              · rw [hj j2 (by omega) (by omega), hrun j2 (by omega) (by omega)]; omega
          · omega
          · omega
          · intro h0
            rw [lwI_f (by omega) hnl]
          · intro j2 h0 h1; omega
          · omega
        · refine Or.inl ⟨show inr (i + 1) from by constructor <;> omega, ?_⟩
          refine ⟨show inr (i + 1) from by constructor <;> omega, ?_⟩
          refine hB (((f (fv 10 1) 0) + 1 - (i + 1)) * 64 : Int).toNat ?_ (Or.inl ⟨rfl, en, (i + 1), 0, (i + 1), f1, rfl, rfl, rfl, rfl, ?_, ?_, ?_, ?_, ?_, ?_, ?_, ?_⟩)
          · omega
          · omega
          · exact hlo
          · intro j2 h0 h1 h2
            by_cases e : j2 < bg
            · exact hlg j2 h0 e h2
            · by_cases e2 : j2 < i
              · rw [hj j2 (by omega) (by omega), hrun j2 (by omega) e2]; omega
              · omega
          · omega
          · omega
          · intro h0
            rw [lwI_f (by omega) hnl]
          · intro j2 h0 h1; omega
          · omega
  · have hrw1 := hrw.1
    refine hO (k_asks (by omega) (fun (hh_10 : bit (f (fv 15 5) 0) 2 = true) => ?_) (fun (hh_11 : bit (f (fv 15 5) 0) 2 = false) => ?_))
    · refine ⟨fun h => absurd (show (1 : Int) = 0 from h) (by decide), fun _ => ?_⟩
      refine hF (((f (fv 10 1) 0) + 1 - (max fm 0)) * 64 : Int).toNat ?_ (Or.inl ⟨rfl, (min (f (fv 10 1) 0) 60), (max fm 0), 0, (max fm 0), f, rfl, rfl, mx_rf, rfl, ?_, ?_, ?_, ?_, ?_, ?_, ?_, ?_⟩)
      · omega
      · omega
      · exact fun _ _ _ => rfl
      · intro j h0 h1; omega
      · omega
      · omega
      · intro _
        rw [show max fm 0 = fm by omega]
        rcases hst with h | h
        · rw [h]; rfl
        · by_cases e : fm = 0
          · rw [e]; rfl
          · have := lwI_f (ab := aC f) (i := fm - 1) (by omega) h
            rw [show fm - 1 + 1 = fm by omega] at this
            rw [this]
      · intro j h0 h1; omega
      · omega
    · refine ⟨fun _ => ?_, fun h => absurd (show (0 : Int) = 0 from by decide) h⟩
      rw [show f = mx [56] f f from mx_rf]
      exact k0 f (fun h => by rw [‹bit _ _ = false›] at h; cases h) (fun _ _ _ => rfl)
set_option maxRecDepth 100000 in
set_option maxHeartbeats 4000000 in
theorem k_ahead_rm {i s : Int} (hd : 1 ≤ d) (hi : 0 ≤ i ∧ i < 12) (k0 : Q (some (iI (cI (fun k => decide ((f 65 k) = s)) i))) f g) : wq d 148 [iR 64, iI i, iI s] f g Q := by
  obtain ⟨d, rfl⟩ : ∃ e, d = e + 1 := ⟨d - 1, by omega⟩
  refine i_meth [(4, 5)] (fun n j lv st f' g' => (j = 4 ∧ ∃ (c : Int) (k : Int), lv = [some (iR 64), some (iI i), some (iI s), some (iI c), some (iI k)] ∧ st = [] ∧ f = f' ∧ g = g' ∧ (0 ≤ k ∧ k ≤ i ∧ 0 ≤ c ∧ c ≤ k) ∧ (c = cI (fun k => decide ((f 65 k) = s)) k) ∧ (n : Int) = i - k)) 60 (by omega) rfl rfl (fun n j lv st f' g' hn hI O J hO hF hB => ?_) (fun hvs hin O J hO hF => ?_)
  · obtain ⟨rfl, c, k, rfl, rfl, rfl, rfl, hk, hc, hm⟩ := hI
    refine ⟨fun (hh_1 : k < i) => ?_, fun (hh_1 : ¬ k < i) => ?_⟩
    · refine ⟨fun _ => ?_, fun h => absurd (show k < 12 from by omega) h⟩
      refine ⟨show 0 ≤ (k : Int) ∧ k < 12 from by omega, ?_⟩
      refine ⟨fun (hh_2 : f 65 k = s) => ?_, fun (hh_2 : ¬ f 65 k = s) => ?_⟩
      · refine ⟨show inr (c + 1) from by constructor <;> omega, ?_⟩
        refine ⟨show inr (k + 1) from by constructor <;> omega, ?_⟩
        refine hB (i - (k + 1) : Int).toNat ?_ ⟨rfl, (c + 1), (k + 1), rfl, rfl, rfl, rfl, ?_, ?_, ?_⟩
        · omega
        · omega
        · first | (rw [cI_t (by omega) (decide_eq_true ‹_ = _›)]; omega) | (rw [cI_f (by omega) (decide_eq_false ‹_›)]; omega)
        · omega
      · refine ⟨show inr (k + 1) from by constructor <;> omega, ?_⟩
        refine hB (i - (k + 1) : Int).toNat ?_ ⟨rfl, c, (k + 1), rfl, rfl, rfl, rfl, ?_, ?_, ?_⟩
        · omega
        · omega
        · first | (rw [cI_t (by omega) (decide_eq_true ‹_ = _›)]; omega) | (rw [cI_f (by omega) (decide_eq_false ‹_›)]; omega)
        · omega
    · rw [show k = i by omega] at hc
      rw [← hc] at k0
      exact k0
  · refine hF (i - 0 : Int).toNat ?_ ⟨rfl, 0, 0, rfl, rfl, rfl, rfl, ?_, ?_, ?_⟩
    · omega
    · omega
    · rfl
    · omega
set_option maxRecDepth 100000 in
set_option maxHeartbeats 4000000 in
theorem k_measure_rm {fm : Int} (hd : 2 ≤ d) (hfm : 0 ≤ fm ∧ fm ≤ (f (fv 64 1) 0)) (hst : fm = 0 ∨ isL (f 65) (f (fv 64 1) 0) (fm - 1) = false) (hrw : rowB (f (fv 64 1) 0) 12 (f 65)) (hab : (abOK f)) (k0 : ∀ f1 : iF, (bit (f (fv 15 5) 0) 2 = true → ∀ j, fm ≤ j → j < (f (fv 64 1) 0) → f1 56 j = lgI (aC f) (f 65) (f (fv 64 1) 0) j) → (∀ j, 0 ≤ j → j < fm → f1 56 j = (f 56 j)) → Q none (mx [56] f f1) g) : wq d 143 [iR 54, iR 64, iI fm] f g Q := by
  obtain ⟨d, rfl⟩ : ∃ e, d = e + 1 := ⟨d - 1, by omega⟩
  refine i_meth [(20, 7), (46, 8)] (fun n j lv st f' g' => (j = 20 ∧ ∃ (en : Int) (bg : Int) (ct : Int) (i : Int) (f1 : iF), lv = [some (iR 54), some (iR 64), some (iI fm), some (iI en), some (iI bg), some (iI ct), some (iI i)] ∧ st = [] ∧ f' = (mx [56] f f1) ∧ g = g' ∧ (en = (f (fv 64 1) 0)) ∧ (∀ j, 0 ≤ j → j < fm → f1 56 j = f 56 j) ∧ (∀ j, fm ≤ j → j < bg → j < en → f1 56 j = lgI (aC f) (f 65) (f (fv 64 1) 0) j) ∧ (fm ≤ bg ∧ bg ≤ i ∧ i ≤ en + 1 ∧ 0 ≤ ct ∧ ct ≤ i) ∧ (en < i → bg = i) ∧ (i ≤ en → ct = lwI (aC f) (f 65) (f (fv 64 1) 0) i) ∧ (∀ j, bg ≤ j → j < i → isL (f 65) (f (fv 64 1) 0) j = true) ∧ (n : Int) = ((f (fv 64 1) 0) + 1 - i) * 64) ∨ (j = 46 ∧ ∃ (en : Int) (bg : Int) (ct : Int) (i : Int) (j : Int) (f1 : iF), lv = [some (iR 54), some (iR 64), some (iI fm), some (iI en), some (iI bg), some (iI ct), some (iI i), some (iI j)] ∧ st = [] ∧ f' = (mx [56] f f1) ∧ g = g' ∧ (en = (f (fv 64 1) 0)) ∧ (∀ j, 0 ≤ j → j < fm → f1 56 j = f 56 j) ∧ (∀ j, fm ≤ j → j < bg → j < en → f1 56 j = lgI (aC f) (f 65) (f (fv 64 1) 0) j) ∧ (fm ≤ bg ∧ bg ≤ j ∧ j ≤ i ∧ i ≤ en ∧ 0 ≤ ct ∧ ct ≤ i) ∧ (ct = lwI (aC f) (f 65) (f (fv 64 1) 0) i) ∧ (∀ j, bg ≤ j → j < i → isL (f 65) (f (fv 64 1) 0) j = true) ∧ (isL (f 65) (f (fv 64 1) 0) i = false) ∧ (∀ k, bg ≤ k → k < j → f1 56 k = ct) ∧ (n : Int) = ((f (fv 64 1) 0) + 1 - i) * 64 - (j - bg))) 3904 (by omega) rfl rfl (fun n j lv st f' g' hn hI O J hO hF hB => ?_) (fun hvs hin O J hO hF => ?_)
  · rcases hI with hI | hI
    · obtain ⟨rfl, en, bg, ct, i, f1, rfl, rfl, rfl, rfl, hen, hlo, hlg, hb, hbe, hct, hle, hm⟩ := hI
      have hrw1 := hrw.1
      refine ⟨fun (hh_1 : en < i) => ?_, fun (hh_1 : ¬ en < i) => ?_⟩
      · exact k0 f1 (fun _ j h0 h1 => hlg j h0 (by omega) (by omega)) hlo
      · refine ⟨fun (hh_2 : i < en) => ?_, fun (hh_2 : ¬ i < en) => ?_⟩
        · have hri := hrw.2 i (by omega) (by omega)
          refine hO (k_get_rm (by omega) (show 0 ≤ i ∧ i < 12 from by omega) ?_)
          refine hO (k_isLetter (by omega) (fun (hh_3 : 0 ≤ (f 65 i)) (hh_4 : (f 65 i) < 26) => ?_) (fun (hh_5 : ¬ (0 ≤ (f 65 i) ∧ (f 65 i) < 26)) => ?_))
          · have hli : isL (f 65) (f (fv 64 1) 0) i = true := isL_t.mpr ⟨by omega, by omega, by omega⟩
            refine ⟨fun h => absurd (show (1 : Int) = 0 from h) (by decide), fun _ => ?_⟩
            refine hO (k_get_rm (by omega) (show 0 ≤ i ∧ i < 12 from by omega) ?_)
            refine hO (k_isAble (by omega) (show (abOK f) from hab) (fun (hh_6 : (aC f) (f 65 i) = true) => ?_) (fun (hh_7 : (aC f) (f 65 i) = false) => ?_))
            · have hab0 := hh_6
              refine ⟨fun h => absurd (show (1 : Int) = 0 from h) (by decide), fun _ => ?_⟩
              refine Or.inl ⟨show inr (ct + 1) from by constructor <;> omega, ?_⟩
              refine ⟨show inr (i + 1) from by constructor <;> omega, ?_⟩
              refine hB (((f (fv 64 1) 0) + 1 - (i + 1)) * 64 : Int).toNat ?_ (Or.inl ⟨rfl, en, bg, (ct + 1), (i + 1), f1, rfl, rfl, rfl, rfl, ?_, ?_, ?_, ?_, ?_, ?_, ?_, ?_⟩)
              · omega
              · omega
              · exact hlo
              · exact hlg
              · omega
              · omega
              · intro h0
                rw [lwI_t (by omega) hli, hct (by omega), hab0]; rfl
              · intro j2 h0 h1
                by_cases e : j2 = i
                · rw [e]; exact hli
                · exact hle j2 h0 (by omega)
              · omega
            · have hab0 := hh_7
              refine ⟨fun _ => ?_, fun h => absurd (show (0 : Int) = 0 from by decide) h⟩
              refine Or.inl ⟨show inr (ct + 0) from by constructor <;> omega, ?_⟩
              refine ⟨show inr (i + 1) from by constructor <;> omega, ?_⟩
              refine hB (((f (fv 64 1) 0) + 1 - (i + 1)) * 64 : Int).toNat ?_ (Or.inl ⟨rfl, en, bg, (ct + 0), (i + 1), f1, rfl, rfl, rfl, rfl, ?_, ?_, ?_, ?_, ?_, ?_, ?_, ?_⟩)
              · omega
              · omega
              · exact hlo
              · exact hlg
              · omega
              · omega
              · intro h0
                rw [lwI_t (by omega) hli, hct (by omega), hab0]; rfl
              · intro j2 h0 h1
                by_cases e : j2 = i
                · rw [e]; exact hli
                · exact hle j2 h0 (by omega)
              · omega
          · refine ⟨fun _ => ?_, fun h => absurd (show (0 : Int) = 0 from by decide) h⟩
            refine hF (((f (fv 64 1) 0) + 1 - i) * 64 - (bg - bg) : Int).toNat ?_ (Or.inr (⟨rfl, en, bg, ct, i, bg, f1, rfl, rfl, rfl, rfl, ?_, ?_, ?_, ?_, ?_, ?_, ?_, ?_, ?_⟩))
            · omega
            · omega
            · exact hlo
            · exact hlg
            · omega
            · exact hct (by omega)
            · exact hle
            · exact isL_f.mpr (by omega)
            · intro k h0 h1; omega
            · omega
        · refine hF (((f (fv 64 1) 0) + 1 - i) * 64 - (bg - bg) : Int).toNat ?_ (Or.inr (⟨rfl, en, bg, ct, i, bg, f1, rfl, rfl, rfl, rfl, ?_, ?_, ?_, ?_, ?_, ?_, ?_, ?_, ?_⟩))
          · omega
          · omega
          · exact hlo
          · exact hlg
          · omega
          · exact hct (by omega)
          · exact hle
          · exact isL_f.mpr (by omega)
          · intro k h0 h1; omega
          · omega
    · obtain ⟨rfl, en, bg, ct, i, j, f1, rfl, rfl, rfl, rfl, hen, hlo, hlg, hb, hct, hle, hnl, hj, hm⟩ := hI
      have hrw1 := hrw.1
      have hrun : ∀ k, bg ≤ k → k < i → lgI (aC f) (f 65) (f (fv 64 1) 0) k = lwI (aC f) (f 65) (f (fv 64 1) 0) i := by
                intro k h0 h1
                have h2 := tot_run (ab := aC f) (row := (f 65)) (n := (f (fv 64 1) 0)) (a := k) (by omega) (i - k).toNat i (by omega) (fun q h3 h4 => hle q (by omega) h4)
                rw [rrI_f hnl] at h2
                unfold lgI
                rw [if_pos (hle k h0 h1)]
                omega
      refine ⟨fun (hh_8 : j < i) => ?_, fun (hh_8 : ¬ j < i) => ?_⟩
      · refine ⟨show 0 ≤ (j : Int) ∧ j < 60 from by omega, ?_⟩
        refine ⟨show inr (j + 1) from by constructor <;> omega, ?_⟩
        refine hB (((f (fv 64 1) 0) + 1 - i) * 64 - ((j + 1) - bg) : Int).toNat ?_ (Or.inr (⟨rfl, en, bg, ct, i, (j + 1), (wv f1 56 j ct), rfl, rfl, (mx_wv rfl rfl), rfl, ?_, ?_, ?_, ?_, ?_, ?_, ?_, ?_, ?_⟩))
        · omega
        · omega
        · intro j2 h0 h1
          rw [wv_k (by omega)]
          exact hlo j2 h0 h1
        · intro j2 h0 h1 h2
          rw [wv_k (by omega)]
          exact hlg j2 h0 h1 h2
        · omega
        · exact hct
        · exact hle
        · exact hnl
        · intro k h0 h1
          rw [wv_i]
          by_cases e : k = j
          · rw [if_pos e]
          · rw [if_neg e]; exact hj k h0 (by omega)
        · omega
      · refine ⟨fun (hh_9 : i < en) => ?_, fun (hh_9 : ¬ i < en) => ?_⟩
        · refine ⟨show 0 ≤ (i : Int) ∧ i < 60 from by omega, ?_⟩
          refine Or.inl ⟨show inr (i + 1) from by constructor <;> omega, ?_⟩
          refine ⟨show inr (i + 1) from by constructor <;> omega, ?_⟩
          refine hB (((f (fv 64 1) 0) + 1 - (i + 1)) * 64 : Int).toNat ?_ (Or.inl ⟨rfl, en, (i + 1), 0, (i + 1), (wv f1 56 i 0), rfl, rfl, (mx_wv rfl rfl), rfl, ?_, ?_, ?_, ?_, ?_, ?_, ?_, ?_⟩)
          · omega
          · omega
          · intro j2 h0 h1
            rw [wv_k (by omega)]
            exact hlo j2 h0 h1
          · intro j2 h0 h1 h2
            rw [wv_i]
            by_cases e0 : j2 = i
            · rw [if_pos e0, e0]; unfold lgI; rw [hnl]; rfl
            · rw [if_neg e0]
              by_cases e : j2 < bg
              · exact hlg j2 h0 e h2
              · rw [hj j2 (by omega) (by omega), hrun j2 (by omega) (by omega)]; omega
          · omega
          · omega
          · intro h0
            rw [lwI_f (by omega) hnl]
          · intro j2 h0 h1; omega
          · omega
        · refine Or.inl ⟨show inr (i + 1) from by constructor <;> omega, ?_⟩
          refine ⟨show inr (i + 1) from by constructor <;> omega, ?_⟩
          refine hB (((f (fv 64 1) 0) + 1 - (i + 1)) * 64 : Int).toNat ?_ (Or.inl ⟨rfl, en, (i + 1), 0, (i + 1), f1, rfl, rfl, rfl, rfl, ?_, ?_, ?_, ?_, ?_, ?_, ?_, ?_⟩)
          · omega
          · omega
          · exact hlo
          · intro j2 h0 h1 h2
            by_cases e : j2 < bg
            · exact hlg j2 h0 e h2
            · by_cases e2 : j2 < i
              · rw [hj j2 (by omega) (by omega), hrun j2 (by omega) e2]; omega
              · omega
          · omega
          · omega
          · intro h0
            rw [lwI_f (by omega) hnl]
          · intro j2 h0 h1; omega
          · omega
  · have hrw1 := hrw.1
    refine hO (k_asks (by omega) (fun (hh_10 : bit (f (fv 15 5) 0) 2 = true) => ?_) (fun (hh_11 : bit (f (fv 15 5) 0) 2 = false) => ?_))
    · refine ⟨fun h => absurd (show (1 : Int) = 0 from h) (by decide), fun _ => ?_⟩
      refine hF (((f (fv 64 1) 0) + 1 - (max fm 0)) * 64 : Int).toNat ?_ (Or.inl ⟨rfl, (min (f (fv 64 1) 0) 60), (max fm 0), 0, (max fm 0), f, rfl, rfl, mx_rf, rfl, ?_, ?_, ?_, ?_, ?_, ?_, ?_, ?_⟩)
      · omega
      · omega
      · exact fun _ _ _ => rfl
      · intro j h0 h1; omega
      · omega
      · omega
      · intro _
        rw [show max fm 0 = fm by omega]
        rcases hst with h | h
        · rw [h]; rfl
        · by_cases e : fm = 0
          · rw [e]; rfl
          · have := lwI_f (ab := aC f) (i := fm - 1) (by omega) h
            rw [show fm - 1 + 1 = fm by omega] at this
            rw [this]
      · intro j h0 h1; omega
      · omega
    · refine ⟨fun _ => ?_, fun h => absurd (show (0 : Int) = 0 from by decide) h⟩
      rw [show f = mx [56] f f from mx_rf]
      exact k0 f (fun h => by rw [‹bit _ _ = false›] at h; cases h) (fun _ _ _ => rfl)
set_option maxRecDepth 100000 in
set_option maxHeartbeats 4000000 in
theorem k_ahead_bk {i s : Int} (hd : 1 ≤ d) (hi : 0 ≤ i ∧ i < 60) (k0 : Q (some (iI (cI (fun k => decide ((f 75 k) = s)) i))) f g) : wq d 148 [iR 74, iI i, iI s] f g Q := by
  obtain ⟨d, rfl⟩ : ∃ e, d = e + 1 := ⟨d - 1, by omega⟩
  refine i_meth [(4, 5)] (fun n j lv st f' g' => (j = 4 ∧ ∃ (c : Int) (k : Int), lv = [some (iR 74), some (iI i), some (iI s), some (iI c), some (iI k)] ∧ st = [] ∧ f = f' ∧ g = g' ∧ (0 ≤ k ∧ k ≤ i ∧ 0 ≤ c ∧ c ≤ k) ∧ (c = cI (fun k => decide ((f 75 k) = s)) k) ∧ (n : Int) = i - k)) 60 (by omega) rfl rfl (fun n j lv st f' g' hn hI O J hO hF hB => ?_) (fun hvs hin O J hO hF => ?_)
  · obtain ⟨rfl, c, k, rfl, rfl, rfl, rfl, hk, hc, hm⟩ := hI
    refine ⟨fun (hh_1 : k < i) => ?_, fun (hh_1 : ¬ k < i) => ?_⟩
    · refine ⟨fun _ => ?_, fun h => absurd (show k < 60 from by omega) h⟩
      refine ⟨show 0 ≤ (k : Int) ∧ k < 60 from by omega, ?_⟩
      refine ⟨fun (hh_2 : f 75 k = s) => ?_, fun (hh_2 : ¬ f 75 k = s) => ?_⟩
      · refine ⟨show inr (c + 1) from by constructor <;> omega, ?_⟩
        refine ⟨show inr (k + 1) from by constructor <;> omega, ?_⟩
        refine hB (i - (k + 1) : Int).toNat ?_ ⟨rfl, (c + 1), (k + 1), rfl, rfl, rfl, rfl, ?_, ?_, ?_⟩
        · omega
        · omega
        · first | (rw [cI_t (by omega) (decide_eq_true ‹_ = _›)]; omega) | (rw [cI_f (by omega) (decide_eq_false ‹_›)]; omega)
        · omega
      · refine ⟨show inr (k + 1) from by constructor <;> omega, ?_⟩
        refine hB (i - (k + 1) : Int).toNat ?_ ⟨rfl, c, (k + 1), rfl, rfl, rfl, rfl, ?_, ?_, ?_⟩
        · omega
        · omega
        · first | (rw [cI_t (by omega) (decide_eq_true ‹_ = _›)]; omega) | (rw [cI_f (by omega) (decide_eq_false ‹_›)]; omega)
        · omega
    · rw [show k = i by omega] at hc
      rw [← hc] at k0
      exact k0
  · refine hF (i - 0 : Int).toNat ?_ ⟨rfl, 0, 0, rfl, rfl, rfl, rfl, ?_, ?_, ?_⟩
    · omega
    · omega
    · rfl
    · omega
set_option maxRecDepth 100000 in
set_option maxHeartbeats 4000000 in
theorem k_measure_bk {fm : Int} (hd : 2 ≤ d) (hfm : 0 ≤ fm ∧ fm ≤ (f (fv 74 1) 0)) (hst : fm = 0 ∨ isL (f 75) (f (fv 74 1) 0) (fm - 1) = false) (hrw : rowB (f (fv 74 1) 0) 60 (f 75)) (hab : (abOK f)) (k0 : ∀ f1 : iF, (bit (f (fv 15 5) 0) 2 = true → ∀ j, fm ≤ j → j < (f (fv 74 1) 0) → f1 56 j = lgI (aC f) (f 75) (f (fv 74 1) 0) j) → (∀ j, 0 ≤ j → j < fm → f1 56 j = (f 56 j)) → Q none (mx [56] f f1) g) : wq d 143 [iR 54, iR 74, iI fm] f g Q := by
  obtain ⟨d, rfl⟩ : ∃ e, d = e + 1 := ⟨d - 1, by omega⟩
  refine i_meth [(20, 7), (46, 8)] (fun n j lv st f' g' => (j = 20 ∧ ∃ (en : Int) (bg : Int) (ct : Int) (i : Int) (f1 : iF), lv = [some (iR 54), some (iR 74), some (iI fm), some (iI en), some (iI bg), some (iI ct), some (iI i)] ∧ st = [] ∧ f' = (mx [56] f f1) ∧ g = g' ∧ (en = (f (fv 74 1) 0)) ∧ (∀ j, 0 ≤ j → j < fm → f1 56 j = f 56 j) ∧ (∀ j, fm ≤ j → j < bg → j < en → f1 56 j = lgI (aC f) (f 75) (f (fv 74 1) 0) j) ∧ (fm ≤ bg ∧ bg ≤ i ∧ i ≤ en + 1 ∧ 0 ≤ ct ∧ ct ≤ i) ∧ (en < i → bg = i) ∧ (i ≤ en → ct = lwI (aC f) (f 75) (f (fv 74 1) 0) i) ∧ (∀ j, bg ≤ j → j < i → isL (f 75) (f (fv 74 1) 0) j = true) ∧ (n : Int) = ((f (fv 74 1) 0) + 1 - i) * 64) ∨ (j = 46 ∧ ∃ (en : Int) (bg : Int) (ct : Int) (i : Int) (j : Int) (f1 : iF), lv = [some (iR 54), some (iR 74), some (iI fm), some (iI en), some (iI bg), some (iI ct), some (iI i), some (iI j)] ∧ st = [] ∧ f' = (mx [56] f f1) ∧ g = g' ∧ (en = (f (fv 74 1) 0)) ∧ (∀ j, 0 ≤ j → j < fm → f1 56 j = f 56 j) ∧ (∀ j, fm ≤ j → j < bg → j < en → f1 56 j = lgI (aC f) (f 75) (f (fv 74 1) 0) j) ∧ (fm ≤ bg ∧ bg ≤ j ∧ j ≤ i ∧ i ≤ en ∧ 0 ≤ ct ∧ ct ≤ i) ∧ (ct = lwI (aC f) (f 75) (f (fv 74 1) 0) i) ∧ (∀ j, bg ≤ j → j < i → isL (f 75) (f (fv 74 1) 0) j = true) ∧ (isL (f 75) (f (fv 74 1) 0) i = false) ∧ (∀ k, bg ≤ k → k < j → f1 56 k = ct) ∧ (n : Int) = ((f (fv 74 1) 0) + 1 - i) * 64 - (j - bg))) 3904 (by omega) rfl rfl (fun n j lv st f' g' hn hI O J hO hF hB => ?_) (fun hvs hin O J hO hF => ?_)
  · rcases hI with hI | hI
    · obtain ⟨rfl, en, bg, ct, i, f1, rfl, rfl, rfl, rfl, hen, hlo, hlg, hb, hbe, hct, hle, hm⟩ := hI
      have hrw1 := hrw.1
      refine ⟨fun (hh_1 : en < i) => ?_, fun (hh_1 : ¬ en < i) => ?_⟩
      · exact k0 f1 (fun _ j h0 h1 => hlg j h0 (by omega) (by omega)) hlo
      · refine ⟨fun (hh_2 : i < en) => ?_, fun (hh_2 : ¬ i < en) => ?_⟩
        · have hri := hrw.2 i (by omega) (by omega)
          refine hO (k_get_bk (by omega) (show 0 ≤ i ∧ i < 60 from by omega) ?_)
          refine hO (k_isLetter (by omega) (fun (hh_3 : 0 ≤ (f 75 i)) (hh_4 : (f 75 i) < 26) => ?_) (fun (hh_5 : ¬ (0 ≤ (f 75 i) ∧ (f 75 i) < 26)) => ?_))
          · have hli : isL (f 75) (f (fv 74 1) 0) i = true := isL_t.mpr ⟨by omega, by omega, by omega⟩
            refine ⟨fun h => absurd (show (1 : Int) = 0 from h) (by decide), fun _ => ?_⟩
            refine hO (k_get_bk (by omega) (show 0 ≤ i ∧ i < 60 from by omega) ?_)
            refine hO (k_isAble (by omega) (show (abOK f) from hab) (fun (hh_6 : (aC f) (f 75 i) = true) => ?_) (fun (hh_7 : (aC f) (f 75 i) = false) => ?_))
            · have hab0 := hh_6
              refine ⟨fun h => absurd (show (1 : Int) = 0 from h) (by decide), fun _ => ?_⟩
              refine Or.inl ⟨show inr (ct + 1) from by constructor <;> omega, ?_⟩
              refine ⟨show inr (i + 1) from by constructor <;> omega, ?_⟩
              refine hB (((f (fv 74 1) 0) + 1 - (i + 1)) * 64 : Int).toNat ?_ (Or.inl ⟨rfl, en, bg, (ct + 1), (i + 1), f1, rfl, rfl, rfl, rfl, ?_, ?_, ?_, ?_, ?_, ?_, ?_, ?_⟩)
              · omega
              · omega
              · exact hlo
              · exact hlg
              · omega
              · omega
              · intro h0
                rw [lwI_t (by omega) hli, hct (by omega), hab0]; rfl
              · intro j2 h0 h1
                by_cases e : j2 = i
                · rw [e]; exact hli
                · exact hle j2 h0 (by omega)
              · omega
            · have hab0 := hh_7
              refine ⟨fun _ => ?_, fun h => absurd (show (0 : Int) = 0 from by decide) h⟩
              refine Or.inl ⟨show inr (ct + 0) from by constructor <;> omega, ?_⟩
              refine ⟨show inr (i + 1) from by constructor <;> omega, ?_⟩
              refine hB (((f (fv 74 1) 0) + 1 - (i + 1)) * 64 : Int).toNat ?_ (Or.inl ⟨rfl, en, bg, (ct + 0), (i + 1), f1, rfl, rfl, rfl, rfl, ?_, ?_, ?_, ?_, ?_, ?_, ?_, ?_⟩)
              · omega
              · omega
              · exact hlo
              · exact hlg
              · omega
              · omega
              · intro h0
                rw [lwI_t (by omega) hli, hct (by omega), hab0]; rfl
              · intro j2 h0 h1
                by_cases e : j2 = i
                · rw [e]; exact hli
                · exact hle j2 h0 (by omega)
              · omega
          · refine ⟨fun _ => ?_, fun h => absurd (show (0 : Int) = 0 from by decide) h⟩
            refine hF (((f (fv 74 1) 0) + 1 - i) * 64 - (bg - bg) : Int).toNat ?_ (Or.inr (⟨rfl, en, bg, ct, i, bg, f1, rfl, rfl, rfl, rfl, ?_, ?_, ?_, ?_, ?_, ?_, ?_, ?_, ?_⟩))
            · omega
            · omega
            · exact hlo
            · exact hlg
            · omega
            · exact hct (by omega)
            · exact hle
            · exact isL_f.mpr (by omega)
            · intro k h0 h1; omega
            · omega
        · refine hF (((f (fv 74 1) 0) + 1 - i) * 64 - (bg - bg) : Int).toNat ?_ (Or.inr (⟨rfl, en, bg, ct, i, bg, f1, rfl, rfl, rfl, rfl, ?_, ?_, ?_, ?_, ?_, ?_, ?_, ?_, ?_⟩))
          · omega
          · omega
          · exact hlo
          · exact hlg
          · omega
          · exact hct (by omega)
          · exact hle
          · exact isL_f.mpr (by omega)
          · intro k h0 h1; omega
          · omega
    · obtain ⟨rfl, en, bg, ct, i, j, f1, rfl, rfl, rfl, rfl, hen, hlo, hlg, hb, hct, hle, hnl, hj, hm⟩ := hI
      have hrw1 := hrw.1
      have hrun : ∀ k, bg ≤ k → k < i → lgI (aC f) (f 75) (f (fv 74 1) 0) k = lwI (aC f) (f 75) (f (fv 74 1) 0) i := by
                intro k h0 h1
                have h2 := tot_run (ab := aC f) (row := (f 75)) (n := (f (fv 74 1) 0)) (a := k) (by omega) (i - k).toNat i (by omega) (fun q h3 h4 => hle q (by omega) h4)
                rw [rrI_f hnl] at h2
                unfold lgI
                rw [if_pos (hle k h0 h1)]
                omega
      refine ⟨fun (hh_8 : j < i) => ?_, fun (hh_8 : ¬ j < i) => ?_⟩
      · refine ⟨show 0 ≤ (j : Int) ∧ j < 60 from by omega, ?_⟩
        refine ⟨show inr (j + 1) from by constructor <;> omega, ?_⟩
        refine hB (((f (fv 74 1) 0) + 1 - i) * 64 - ((j + 1) - bg) : Int).toNat ?_ (Or.inr (⟨rfl, en, bg, ct, i, (j + 1), (wv f1 56 j ct), rfl, rfl, (mx_wv rfl rfl), rfl, ?_, ?_, ?_, ?_, ?_, ?_, ?_, ?_, ?_⟩))
        · omega
        · omega
        · intro j2 h0 h1
          rw [wv_k (by omega)]
          exact hlo j2 h0 h1
        · intro j2 h0 h1 h2
          rw [wv_k (by omega)]
          exact hlg j2 h0 h1 h2
        · omega
        · exact hct
        · exact hle
        · exact hnl
        · intro k h0 h1
          rw [wv_i]
          by_cases e : k = j
          · rw [if_pos e]
          · rw [if_neg e]; exact hj k h0 (by omega)
        · omega
      · refine ⟨fun (hh_9 : i < en) => ?_, fun (hh_9 : ¬ i < en) => ?_⟩
        · refine ⟨show 0 ≤ (i : Int) ∧ i < 60 from by omega, ?_⟩
          refine Or.inl ⟨show inr (i + 1) from by constructor <;> omega, ?_⟩
          refine ⟨show inr (i + 1) from by constructor <;> omega, ?_⟩
          refine hB (((f (fv 74 1) 0) + 1 - (i + 1)) * 64 : Int).toNat ?_ (Or.inl ⟨rfl, en, (i + 1), 0, (i + 1), (wv f1 56 i 0), rfl, rfl, (mx_wv rfl rfl), rfl, ?_, ?_, ?_, ?_, ?_, ?_, ?_, ?_⟩)
          · omega
          · omega
          · intro j2 h0 h1
            rw [wv_k (by omega)]
            exact hlo j2 h0 h1
          · intro j2 h0 h1 h2
            rw [wv_i]
            by_cases e0 : j2 = i
            · rw [if_pos e0, e0]; unfold lgI; rw [hnl]; rfl
            · rw [if_neg e0]
              by_cases e : j2 < bg
              · exact hlg j2 h0 e h2
              · rw [hj j2 (by omega) (by omega), hrun j2 (by omega) (by omega)]; omega
          · omega
          · omega
          · intro h0
            rw [lwI_f (by omega) hnl]
          · intro j2 h0 h1; omega
          · omega
        · refine Or.inl ⟨show inr (i + 1) from by constructor <;> omega, ?_⟩
          refine ⟨show inr (i + 1) from by constructor <;> omega, ?_⟩
          refine hB (((f (fv 74 1) 0) + 1 - (i + 1)) * 64 : Int).toNat ?_ (Or.inl ⟨rfl, en, (i + 1), 0, (i + 1), f1, rfl, rfl, rfl, rfl, ?_, ?_, ?_, ?_, ?_, ?_, ?_, ?_⟩)
          · omega
          · omega
          · exact hlo
          · intro j2 h0 h1 h2
            by_cases e : j2 < bg
            · exact hlg j2 h0 e h2
            · by_cases e2 : j2 < i
              · rw [hj j2 (by omega) (by omega), hrun j2 (by omega) e2]; omega
              · omega
          · omega
          · omega
          · intro h0
            rw [lwI_f (by omega) hnl]
          · intro j2 h0 h1; omega
          · omega
  · have hrw1 := hrw.1
    refine hO (k_asks (by omega) (fun (hh_10 : bit (f (fv 15 5) 0) 2 = true) => ?_) (fun (hh_11 : bit (f (fv 15 5) 0) 2 = false) => ?_))
    · refine ⟨fun h => absurd (show (1 : Int) = 0 from h) (by decide), fun _ => ?_⟩
      refine hF (((f (fv 74 1) 0) + 1 - (max fm 0)) * 64 : Int).toNat ?_ (Or.inl ⟨rfl, (min (f (fv 74 1) 0) 60), (max fm 0), 0, (max fm 0), f, rfl, rfl, mx_rf, rfl, ?_, ?_, ?_, ?_, ?_, ?_, ?_, ?_⟩)
      · omega
      · omega
      · exact fun _ _ _ => rfl
      · intro j h0 h1; omega
      · omega
      · omega
      · intro _
        rw [show max fm 0 = fm by omega]
        rcases hst with h | h
        · rw [h]; rfl
        · by_cases e : fm = 0
          · rw [e]; rfl
          · have := lwI_f (ab := aC f) (i := fm - 1) (by omega) h
            rw [show fm - 1 + 1 = fm by omega] at this
            rw [this]
      · intro j h0 h1; omega
      · omega
    · refine ⟨fun _ => ?_, fun h => absurd (show (0 : Int) = 0 from by decide) h⟩
      rw [show f = mx [56] f f from mx_rf]
      exact k0 f (fun h => by rw [‹bit _ _ = false›] at h; cases h) (fun _ _ _ => rfl)
end C7
