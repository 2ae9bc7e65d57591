section C2
variable {d : Nat} {f : iF} {g : iG} {Q : Option iv → iF → iG → Prop}
/-! ===== the reference: what a sign pays ===== -/
def oR (f : iF) : Int → Int := fun s => f 86 s - 1
def aR (f : iF) : Int → Bool := abl (f 87) (oR f) (f 83)
theorem aR_t {f : iF} {s : Int} : aR f s = true ↔ (0 ≤ s ∧ s < 29 ∧ f 87 s = 0 ∧ 0 ≤ f 86 s - 1 ∧ f 83 (f 86 s - 1) = 0) := abl_t
theorem aR_f {f : iF} {s : Int} : aR f s = false ↔ ¬ (0 ≤ s ∧ s < 29 ∧ f 87 s = 0 ∧ 0 ≤ f 86 s - 1 ∧ f 83 (f 86 s - 1) = 0) := abl_f
/-- owners of the reference -/
def oB (f : iF) : Prop := ∀ s, 0 ≤ s → s < 29 → 0 ≤ f 86 s ∧ f 86 s ≤ 8
/-- the row in thought -/
def rwB (f : iF) : Prop := (0 ≤ f (fv 79 15) 0 ∧ f (fv 79 15) 0 ≤ 60) ∧ ∀ i, 0 ≤ i → i < f (fv 79 15) 0 → 0 ≤ f 89 i ∧ f 89 i ≤ 29
theorem lg_start {ab : Int → Bool} {row : Int → Int} {n i a : Int} (h0 : 0 ≤ a) (h1 : a ≤ i) (h : ∀ k, a ≤ k → k ≤ i → isL row n k = true) (hs : isL row n (a - 1) = false) : lgI ab row n i = rrI ab row n a := by
  have hi := h i h1 (Int.le_refl i)
  unfold lgI
  rw [if_pos hi, ← tot_run h0 (i - a).toNat i (by omega) (fun k h2 h3 => h k h2 (by omega))]
  by_cases e : a = 0
  · subst e
    rw [lwI_0]; omega
  · have := lwI_f (ab := ab) (row := row) (n := n) (i := a - 1) (by omega) hs
    rw [show a - 1 + 1 = a by omega] at this
    rw [this]; omega
set_option maxRecDepth 100000 in
set_option maxHeartbeats 4000000 in
theorem c_ownerOf {s : Int} (hd : 1 ≤ d) (hs0 : 0 ≤ s) (hs1 : s < 29) (ho : (oB f)) (k0 : Q (some (iI ((f 86 s) - 1))) f g) : wq d 12 [iR 79, iI s] f g Q := by
  obtain ⟨d, rfl⟩ : ∃ e, d = e + 1 := ⟨d - 1, by omega⟩
  refine i_meth0 rfl rfl (fun O J hO => ?_)
  have ho1 := ho s hs0 hs1
  refine ⟨show 0 ≤ (s : Int) ∧ s < 29 from by omega, ?_⟩
  refine Or.inl ⟨show inr ((f 86 s) - 1) from by constructor <;> omega, ?_⟩
  exact k0
set_option maxRecDepth 100000 in
set_option maxHeartbeats 4000000 in
theorem c_canP {s : Int} (hd : 2 ≤ d) (hs0 : 0 ≤ s) (hs1 : s < 29) (ho : (oB f)) (k0 : ((aR f) s = true) → Q (some (iI 1)) f g) (k1 : ((aR f) s = false) → Q (some (iI 0)) f g) : wq d 13 [iR 79, iI s] f g Q := by
  obtain ⟨d, rfl⟩ : ∃ e, d = e + 1 := ⟨d - 1, by omega⟩
  refine i_meth0 rfl rfl (fun O J hO => ?_)
  have ho1 := ho s hs0 hs1
  refine ⟨show 0 ≤ (s : Int) ∧ s < 29 from by omega, ?_⟩
  refine ⟨fun (hh_1 : f 87 s = 0) => ?_, fun (hh_1 : ¬ f 87 s = 0) => ?_⟩
  · refine ⟨show 0 ≤ (s : Int) ∧ s < 29 from by omega, ?_⟩
    refine ⟨fun (hh_2 : 0 < f 86 s) => ?_, fun (hh_2 : ¬ 0 < f 86 s) => ?_⟩
    · refine hO (c_ownerOf (by omega) (show 0 ≤ s from by omega) (show s < 29 from by omega) (show (oB f) from ho) ?_)
      refine ⟨show 0 ≤ ((f 86 s) - 1 : Int) ∧ (f 86 s) - 1 < 8 from by omega, ?_⟩
      refine ⟨fun (hh_3 : f 83 ((f 86 s) - 1) = 0) => ?_, fun (hh_3 : ¬ f 83 ((f 86 s) - 1) = 0) => ?_⟩
      · refine ⟨show (1 : Int) = 0 ∨ 1 = 1 from by decide, ?_⟩
        exact k0 (by exact aR_t.mpr ⟨hs0, hs1, by omega, by omega, by omega⟩)
      · refine ⟨show (0 : Int) = 0 ∨ 0 = 1 from by decide, ?_⟩
        exact k1 (by exact aR_f.mpr (by omega))
    · refine ⟨show (0 : Int) = 0 ∨ 0 = 1 from by decide, ?_⟩
      exact k1 (by exact aR_f.mpr (by omega))
  · refine ⟨show (0 : Int) = 0 ∨ 0 = 1 from by decide, ?_⟩
    exact k1 (by exact aR_f.mpr (by omega))
set_option maxRecDepth 100000 in
set_option maxHeartbeats 4000000 in
theorem c_isLAt {i : Int} (hd : 1 ≤ d) (hr : (rwB f)) (k0 : (isL (f 89) (f (fv 79 15) 0) i = true) → Q (some (iI 1)) f g) (k1 : (isL (f 89) (f (fv 79 15) 0) i = false) → Q (some (iI 0)) f g) : wq d 45 [iR 79, iI i] f g Q := by
  obtain ⟨d, rfl⟩ : ∃ e, d = e + 1 := ⟨d - 1, by omega⟩
  refine i_meth0 rfl rfl (fun O J hO => ?_)
  have hr1 := hr.1
  refine ⟨fun (hh_1 : i < 0) => ?_, fun (hh_1 : ¬ i < 0) => ?_⟩
  · refine ⟨show (0 : Int) = 0 ∨ 0 = 1 from by decide, ?_⟩
    exact k1 (by exact isL_f.mpr (by omega))
  · refine ⟨fun (hh_2 : i < f (fv 79 15) 0) => ?_, fun (hh_2 : ¬ i < f (fv 79 15) 0) => ?_⟩
    · refine ⟨show 0 ≤ (i : Int) ∧ i < 60 from by omega, ?_⟩
      refine ⟨fun (hh_3 : f 89 i < 26) => ?_, fun (hh_3 : ¬ f 89 i < 26) => ?_⟩
      · refine ⟨show (1 : Int) = 0 ∨ 1 = 1 from by decide, ?_⟩
        exact k0 (by exact isL_t.mpr ⟨by omega, by omega, by omega⟩)
      · refine ⟨show (0 : Int) = 0 ∨ 0 = 1 from by decide, ?_⟩
        exact k1 (by exact isL_f.mpr (by omega))
    · refine ⟨show (0 : Int) = 0 ∨ 0 = 1 from by decide, ?_⟩
      exact k1 (by exact isL_f.mpr (by omega))
set_option maxRecDepth 100000 in
set_option maxHeartbeats 4000000 in
theorem c_longAt {i : Int} (hd : 3 ≤ d) (hi0 : 0 ≤ i) (hi1 : i < (f (fv 79 15) 0)) (hr : (rwB f)) (ho : (oB f)) (k0 : Q (some (iI (lgI (aR f) (f 89) (f (fv 79 15) 0) i))) f g) : wq d 46 [iR 79, iI i] f g Q := by
  obtain ⟨d, rfl⟩ : ∃ e, d = e + 1 := ⟨d - 1, by omega⟩
  refine i_meth [(8, 3), (21, 4)] (fun n j lv st f' g' => (j = 8 ∧ ∃ (a : Int), lv = [some (iR 79), some (iI i), some (iI a)] ∧ st = [] ∧ f = f' ∧ g = g' ∧ (0 ≤ a ∧ a ≤ i) ∧ (∀ k, a ≤ k → k ≤ i → isL (f 89) (f (fv 79 15) 0) k = true) ∧ (n : Int) = a + 61) ∨ (j = 21 ∧ ∃ (a : Int) (c : Int), lv = [some (iR 79), some (iI i), some (iI a), some (iI c)] ∧ st = [] ∧ f = f' ∧ g = g' ∧ (0 ≤ a ∧ a ≤ (f (fv 79 15) 0) ∧ 0 ≤ c ∧ c ≤ a) ∧ (c + rrI (aR f) (f 89) (f (fv 79 15) 0) a = lgI (aR f) (f 89) (f (fv 79 15) 0) i) ∧ (n : Int) = (f (fv 79 15) 0) - a)) 200 (by omega) rfl rfl (fun n j lv st f' g' hn hI O J hO hF hB => ?_) (fun hvs hin O J hO hF => ?_)
  · rcases hI with hI | hI
    · obtain ⟨rfl, a, rfl, rfl, rfl, rfl, ha, hl, hm⟩ := hI
      have hr1 := hr.1
      refine Or.inl ⟨show inr (a - 1) from by constructor <;> omega, ?_⟩
      refine hO (c_isLAt (by omega) (show (rwB f) from hr) (fun (hh_1 : isL (f 89) (f (fv 79 15) 0) (a - 1) = true) => ?_) (fun (hh_2 : isL (f 89) (f (fv 79 15) 0) (a - 1) = false) => ?_))
      · have hla := isL_t.mp hh_1
        refine ⟨fun h => absurd (show (1 : Int) = 0 from h) (by decide), fun _ => ?_⟩
        refine Or.inl ⟨show inr (a - 1) from by constructor <;> omega, ?_⟩
        refine hB ((a - 1) + 61 : Int).toNat ?_ (Or.inl ⟨rfl, (a - 1), rfl, rfl, rfl, rfl, ?_, ?_, ?_⟩)
        · omega
        · omega
        · intro k h1 h2
          by_cases e : k = a - 1
          · rw [e]; assumption
          · exact hl k (by omega) h2
        · omega
      · refine ⟨fun _ => ?_, fun h => absurd (show (0 : Int) = 0 from by decide) h⟩
        refine hF ((f (fv 79 15) 0) - a : Int).toNat ?_ (Or.inr (⟨rfl, a, 0, rfl, rfl, rfl, rfl, ?_, ?_, ?_⟩))
        · omega
        · omega
        · rw [lg_start ha.1 ha.2 hl ‹_›]; omega
        · omega
    · obtain ⟨rfl, a, c, rfl, rfl, rfl, rfl, ha, hc, hm⟩ := hI
      have hr1 := hr.1
      refine hO (c_isLAt (by omega) (show (rwB f) from hr) (fun (hh_3 : isL (f 89) (f (fv 79 15) 0) a = true) => ?_) (fun (hh_4 : isL (f 89) (f (fv 79 15) 0) a = false) => ?_))
      · have hla := isL_t.mp hh_3
        refine ⟨fun h => absurd (show (1 : Int) = 0 from h) (by decide), fun _ => ?_⟩
        refine ⟨show 0 ≤ (a : Int) ∧ a < 60 from by omega, ?_⟩
        refine hO (c_canP (by omega) (show 0 ≤ (f 89 a) from by have := hr.2 a (by omega) (by omega); omega) (show (f 89 a) < 29 from by omega) (show (oB f) from ho) (fun (hh_5 : (aR f) (f 89 a) = true) => ?_) (fun (hh_6 : (aR f) (f 89 a) = false) => ?_))
        · have hrr := rrI_t (ab := (aR f)) (isL_t.mpr hla)
          rw [hh_5, b1_t] at hrr
          refine ⟨fun h => absurd (show (1 : Int) = 0 from h) (by decide), fun _ => ?_⟩
          refine Or.inl ⟨show inr (c + 1) from by constructor <;> omega, ?_⟩
          refine Or.inl ⟨show inr (a + 1) from by constructor <;> omega, ?_⟩
          refine hB ((f (fv 79 15) 0) - (a + 1) : Int).toNat ?_ (Or.inr (⟨rfl, (a + 1), (c + 1), rfl, rfl, rfl, rfl, ?_, ?_, ?_⟩))
          · omega
          · omega
          · omega
          · omega
        · have hrr := rrI_t (ab := (aR f)) (isL_t.mpr hla)
          rw [hh_6, b1_f] at hrr
          refine ⟨fun _ => ?_, fun h => absurd (show (0 : Int) = 0 from by decide) h⟩
          refine Or.inl ⟨show inr (a + 1) from by constructor <;> omega, ?_⟩
          refine hB ((f (fv 79 15) 0) - (a + 1) : Int).toNat ?_ (Or.inr (⟨rfl, (a + 1), c, rfl, rfl, rfl, rfl, ?_, ?_, ?_⟩))
          · omega
          · omega
          · omega
          · omega
      · refine ⟨fun _ => ?_, fun h => absurd (show (0 : Int) = 0 from by decide) h⟩
        have hrf := rrI_f (ab := (aR f)) ‹isL _ _ _ = false›
        rw [show lgI (aR f) (f 89) (f (fv 79 15) 0) i = c from by omega] at k0
        exact k0
  · have hr1 := hr.1
    refine hO (c_isLAt (by omega) (show (rwB f) from hr) (fun (hh_7 : isL (f 89) (f (fv 79 15) 0) i = true) => ?_) (fun (hh_8 : isL (f 89) (f (fv 79 15) 0) i = false) => ?_))
    · have hla := isL_t.mp hh_7
      refine ⟨fun h => absurd (show (1 : Int) = 0 from h) (by decide), fun _ => ?_⟩
      refine hF (i + 61 : Int).toNat ?_ (Or.inl ⟨rfl, i, rfl, rfl, rfl, rfl, ?_, ?_, ?_⟩)
      · omega
      · omega
      · intro k h1 h2
        rw [show k = i by omega]
        assumption
      · omega
    · refine ⟨fun _ => ?_, fun h => absurd (show (0 : Int) = 0 from by decide) h⟩
      rw [show lgI (aR f) (f 89) (f (fv 79 15) 0) i = 0 from by unfold lgI; rw [‹isL _ _ _ = false›]; rfl] at k0
      exact k0
set_option maxRecDepth 100000 in
set_option maxHeartbeats 4000000 in
theorem c_usedAt {i : Int} (hd : 1 ≤ d) (hi0 : 0 ≤ i) (hi1 : i < 60) (k0 : Q (some (iI (usI (f 89) i))) f g) : wq d 47 [iR 79, iI i] f g Q := by
  obtain ⟨d, rfl⟩ : ∃ e, d = e + 1 := ⟨d - 1, by omega⟩
  refine i_meth [(4, 4)] (fun n j lv st f' g' => (j = 4 ∧ ∃ (c : Int) (k : Int), lv = [some (iR 79), some (iI i), some (iI c), some (iI k)] ∧ st = [] ∧ f = f' ∧ g = g' ∧ (0 ≤ k ∧ k ≤ i ∧ 0 ≤ c ∧ c ≤ k) ∧ (c = cI (fun k => decide ((f 89 k) = (f 89 i))) k) ∧ (n : Int) = i - k)) 60 (by omega) rfl rfl (fun n j lv st f' g' hn hI O J hO hF hB => ?_) (fun hvs hin O J hO hF => ?_)
  · obtain ⟨rfl, c, k, rfl, rfl, rfl, rfl, hk, hc, hm⟩ := hI
    refine ⟨fun (hh_1 : k < i) => ?_, fun (hh_1 : ¬ k < i) => ?_⟩
    · refine ⟨show 0 ≤ (k : Int) ∧ k < 60 from by omega, ?_⟩
      refine ⟨show 0 ≤ (i : Int) ∧ i < 60 from by omega, ?_⟩
      refine ⟨fun (hh_2 : f 89 k = f 89 i) => ?_, fun (hh_2 : ¬ f 89 k = f 89 i) => ?_⟩
      · refine Or.inl ⟨show inr (c + 1) from by constructor <;> omega, ?_⟩
        refine ⟨show inr (k + 1) from by constructor <;> omega, ?_⟩
        refine hB (i - (k + 1) : Int).toNat ?_ ⟨rfl, (c + 1), (k + 1), rfl, rfl, rfl, rfl, ?_, ?_, ?_⟩
        · omega
        · omega
        · first | (rw [cI_t (by omega) (decide_eq_true ‹_ = _›)]; omega) | (rw [cI_f (by omega) (decide_eq_false ‹_›)]; omega)
        · omega
      · refine ⟨show inr (k + 1) from by constructor <;> omega, ?_⟩
        refine hB (i - (k + 1) : Int).toNat ?_ ⟨rfl, c, (k + 1), rfl, rfl, rfl, rfl, ?_, ?_, ?_⟩
        · omega
        · omega
        · first | (rw [cI_t (by omega) (decide_eq_true ‹_ = _›)]; omega) | (rw [cI_f (by omega) (decide_eq_false ‹_›)]; omega)
        · omega
    · rw [show k = i by omega] at hc
      unfold usI at k0
      rw [← hc] at k0
      exact k0
  · refine hF (i - 0 : Int).toNat ?_ ⟨rfl, 0, 0, rfl, rfl, rfl, rfl, ?_, ?_, ?_⟩
    · omega
    · omega
    · rfl
    · omega
end C2
