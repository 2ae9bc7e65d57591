section C9
variable {d : Nat} {f : iF} {g : iG} {Q : Option iv → iF → iG → Prop}
/-! ===== the class: facts, pays, earnings ===== -/
theorem fcC_t {m : Int} {fa : Int → Int} {k : Int} (h : bit m k = true) : fcC m fa k = fa k := by unfold fcC; rw [if_neg (fun e => by rw [h] at e; exact absurd e.2 (by decide))]
theorem fcC_f {m : Int} {fa : Int → Int} {k : Int} (hk : k = 2 ∨ k = 3 ∨ k = 6 ∨ k = 7) (h : bit m k = false) : fcC m fa k = 0 := by unfold fcC; rw [if_pos ⟨hk, h⟩]
theorem fcC_n {m : Int} {fa : Int → Int} {k : Int} (hk : ¬ (k = 2 ∨ k = 3 ∨ k = 6 ∨ k = 7)) : fcC m fa k = fa k := by unfold fcC; rw [if_neg (fun e => hk e.1)]
theorem fcC_r {m : Int} {fa : Int → Int} {k c : Int} (h : 0 ≤ fa k ∧ fa k < c) : 0 ≤ fcC m fa k ∧ fcC m fa k < c := by
  unfold fcC
  split
  · omega
  · exact h
theorem fok_fct {m : Int} {ab : Int → Bool} {ow row : Int → Int} {day n i : Int} (hab : ∀ s, ab s = true → 0 ≤ s ∧ s < 29) (ho : -1 ≤ ow (row i) ∧ ow (row i) ≤ 8) (hday : 0 ≤ day ∧ day ≤ 9999) (hi : 0 ≤ i ∧ i < n ∧ n ≤ 60) (hr : 0 ≤ row i ∧ row i ≤ 29) : fok (fcC m (fct ab ow day row n i)) := by
  have h1 := lgI_le (ab := ab) (row := row) (n := n) (i := i) (by omega)
  have h2 := usI_r (row := row) hi.1
  have h4 := b1_01 (isL row n i && !isL row n (i - 1))
  have h5 : 0 ≤ lfI ab row i ∧ lfI ab row i ≤ 29 := by
    unfold lfI
    split
    · rename_i e
      have := hab _ e.2
      omega
    · omega
  refine ⟨?_, fcC_r (c := 32) (show 0 ≤ row i ∧ row i < 32 by omega), fcC_r (c := 64) (show 0 ≤ lgI ab row n i ∧ lgI ab row n i < 64 by omega), fcC_r (c := 64) (show 0 ≤ usI row i ∧ usI row i < 64 by omega), fcC_r (c := 16) (show 0 ≤ (if ow (row i) = -1 then 9 else ow (row i)) ∧ (if ow (row i) = -1 then 9 else ow (row i)) < 16 by split <;> omega), fcC_r (c := 32) (show 0 ≤ lfI ab row i ∧ lfI ab row i < 32 by omega), fcC_r (c := 2) (show 0 ≤ fsI row n i ∧ fsI row n i < 2 by unfold fsI; omega), rfl⟩
  have := fcC_r (m := m) (fa := fct ab ow day row n i) (k := 6) (c := 10000) (show 0 ≤ day ∧ day < 10000 by omega)
  omega
theorem fok_cg {fa fb : Int → Int} (h : ∀ k, 0 ≤ k → k ≤ 8 → fa k = fb k) (hf : fok fb) : fok fa := by
  unfold fok
  rw [h 6 (by decide) (by decide), h 0 (by decide) (by decide), h 2 (by decide) (by decide), h 3 (by decide) (by decide), h 5 (by decide) (by decide), h 7 (by decide) (by decide), h 8 (by decide) (by decide), h 4 (by decide) (by decide)]
  exact hf
theorem fok_fa {fa : Int → Int} (h : fok fa) (h1 : inr (fa 1)) : faok fa := by
  obtain ⟨h6, h0, h2, h3, h5, h7, h8, h4⟩ := h
  have hb := b1_01 (vwl (fa 0))
  intro k hk hk8
  have : k = 0 ∨ k = 1 ∨ k = 2 ∨ k = 3 ∨ k = 4 ∨ k = 5 ∨ k = 6 ∨ k = 7 ∨ k = 8 := by omega
  rcases this with e | e | e | e | e | e | e | e | e <;> subst e <;> first | exact h1 | (constructor <;> omega)
theorem tm32 {x : Int} (h : 0 ≤ x) : inr (x.tmod 32) := by rw [Int.tmod_eq_emod_of_nonneg h]; constructor <;> omega
set_option maxRecDepth 100000 in
set_option maxHeartbeats 4000000 in
theorem k_fill_60 {v : Int} (hd : 1 ≤ d) (k0 : ∀ f1 : iF, (∀ k, 0 ≤ k → k < 8 → f1 60 k = v) → Q none (mx [60] f f1) g) : wq d 86 [iR 60, iI v] f g Q := by
  obtain ⟨d, rfl⟩ : ∃ e, d = e + 1 := ⟨d - 1, by omega⟩
  refine i_meth [(5, 4)] (fun n j lv st f' g' => (j = 5 ∧ ∃ (k : Int) (m : Int) (f1 : iF), lv = [some (iR 60), some (iI v), some (iI k), some (iI m)] ∧ st = [] ∧ f' = (mx [60] f f1) ∧ g = g' ∧ (m = 8) ∧ (0 ≤ k ∧ k ≤ m) ∧ (∀ j, 0 ≤ j → j < k → f1 60 j = v) ∧ (n : Int) = 8 - k)) 8 (by omega) rfl rfl (fun n j lv st f' g' hn hI O J hO hF hB => ?_) (fun hvs hin O J hO hF => ?_)
  · obtain ⟨rfl, k, m, f1, rfl, rfl, rfl, rfl, hm2, hk, hz, hm⟩ := hI
    refine ⟨fun (hh_1 : k < m) => ?_, fun (hh_1 : ¬ k < m) => ?_⟩
    · refine ⟨show 0 ≤ (k : Int) ∧ k < 8 from by omega, ?_⟩
      refine ⟨show inr (k + 1) from by constructor <;> omega, ?_⟩
      refine hB (8 - (k + 1) : Int).toNat ?_ ⟨rfl, (k + 1), m, (wv f1 60 k v), rfl, rfl, (mx_wv rfl rfl), rfl, ?_, ?_, ?_, ?_⟩
      · omega
      · omega
      · omega
      · intro j h0 h1
        rw [wv_i]
        by_cases e : j = k
        · rw [if_pos e]
        · rw [if_neg e]; exact hz j h0 (by omega)
      · omega
    · exact k0 f1 (fun j h0 h1 => hz j h0 (by omega))
  · refine hF (8 - 0 : Int).toNat ?_ ⟨rfl, 0, 8, f, rfl, rfl, mx_rf, rfl, ?_, ?_, ?_, ?_⟩
    · omega
    · rfl
    · omega
    · intro j h0 h1; omega
    · omega
set_option maxRecDepth 100000 in
set_option maxHeartbeats 4000000 in
theorem k_fill_61 {v : Int} (hd : 1 ≤ d) (k0 : ∀ f1 : iF, (∀ k, 0 ≤ k → k < 8 → f1 61 k = v) → Q none (mx [61] f f1) g) : wq d 86 [iR 61, iI v] f g Q := by
  obtain ⟨d, rfl⟩ : ∃ e, d = e + 1 := ⟨d - 1, by omega⟩
  refine i_meth [(5, 4)] (fun n j lv st f' g' => (j = 5 ∧ ∃ (k : Int) (m : Int) (f1 : iF), lv = [some (iR 61), some (iI v), some (iI k), some (iI m)] ∧ st = [] ∧ f' = (mx [61] f f1) ∧ g = g' ∧ (m = 8) ∧ (0 ≤ k ∧ k ≤ m) ∧ (∀ j, 0 ≤ j → j < k → f1 61 j = v) ∧ (n : Int) = 8 - k)) 8 (by omega) rfl rfl (fun n j lv st f' g' hn hI O J hO hF hB => ?_) (fun hvs hin O J hO hF => ?_)
  · obtain ⟨rfl, k, m, f1, rfl, rfl, rfl, rfl, hm2, hk, hz, hm⟩ := hI
    refine ⟨fun (hh_1 : k < m) => ?_, fun (hh_1 : ¬ k < m) => ?_⟩
    · refine ⟨show 0 ≤ (k : Int) ∧ k < 8 from by omega, ?_⟩
      refine ⟨show inr (k + 1) from by constructor <;> omega, ?_⟩
      refine hB (8 - (k + 1) : Int).toNat ?_ ⟨rfl, (k + 1), m, (wv f1 61 k v), rfl, rfl, (mx_wv rfl rfl), rfl, ?_, ?_, ?_, ?_⟩
      · omega
      · omega
      · omega
      · intro j h0 h1
        rw [wv_i]
        by_cases e : j = k
        · rw [if_pos e]
        · rw [if_neg e]; exact hz j h0 (by omega)
      · omega
    · exact k0 f1 (fun j h0 h1 => hz j h0 (by omega))
  · refine hF (8 - 0 : Int).toNat ?_ ⟨rfl, 0, 8, f, rfl, rfl, mx_rf, rfl, ?_, ?_, ?_, ?_⟩
    · omega
    · rfl
    · omega
    · intro j h0 h1; omega
    · omega
set_option maxRecDepth 100000 in
set_option maxHeartbeats 4000000 in
theorem k_fill_71 {v : Int} (hd : 1 ≤ d) (k0 : ∀ f1 : iF, (∀ k, 0 ≤ k → k < 8 → f1 71 k = v) → Q none (mx [71] f f1) g) : wq d 86 [iR 71, iI v] f g Q := by
  obtain ⟨d, rfl⟩ : ∃ e, d = e + 1 := ⟨d - 1, by omega⟩
  refine i_meth [(5, 4)] (fun n j lv st f' g' => (j = 5 ∧ ∃ (k : Int) (m : Int) (f1 : iF), lv = [some (iR 71), some (iI v), some (iI k), some (iI m)] ∧ st = [] ∧ f' = (mx [71] f f1) ∧ g = g' ∧ (m = 8) ∧ (0 ≤ k ∧ k ≤ m) ∧ (∀ j, 0 ≤ j → j < k → f1 71 j = v) ∧ (n : Int) = 8 - k)) 8 (by omega) rfl rfl (fun n j lv st f' g' hn hI O J hO hF hB => ?_) (fun hvs hin O J hO hF => ?_)
  · obtain ⟨rfl, k, m, f1, rfl, rfl, rfl, rfl, hm2, hk, hz, hm⟩ := hI
    refine ⟨fun (hh_1 : k < m) => ?_, fun (hh_1 : ¬ k < m) => ?_⟩
    · refine ⟨show 0 ≤ (k : Int) ∧ k < 8 from by omega, ?_⟩
      refine ⟨show inr (k + 1) from by constructor <;> omega, ?_⟩
      refine hB (8 - (k + 1) : Int).toNat ?_ ⟨rfl, (k + 1), m, (wv f1 71 k v), rfl, rfl, (mx_wv rfl rfl), rfl, ?_, ?_, ?_, ?_⟩
      · omega
      · omega
      · omega
      · intro j h0 h1
        rw [wv_i]
        by_cases e : j = k
        · rw [if_pos e]
        · rw [if_neg e]; exact hz j h0 (by omega)
      · omega
    · exact k0 f1 (fun j h0 h1 => hz j h0 (by omega))
  · refine hF (8 - 0 : Int).toNat ?_ ⟨rfl, 0, 8, f, rfl, rfl, mx_rf, rfl, ?_, ?_, ?_, ?_⟩
    · omega
    · rfl
    · omega
    · intro j h0 h1; omega
    · omega
set_option maxRecDepth 100000 in
set_option maxHeartbeats 4000000 in
theorem k_fill_78 {v : Int} (hd : 1 ≤ d) (k0 : ∀ f1 : iF, (∀ k, 0 ≤ k → k < 8 → f1 78 k = v) → Q none (mx [78] f f1) g) : wq d 86 [iR 78, iI v] f g Q := by
  obtain ⟨d, rfl⟩ : ∃ e, d = e + 1 := ⟨d - 1, by omega⟩
  refine i_meth [(5, 4)] (fun n j lv st f' g' => (j = 5 ∧ ∃ (k : Int) (m : Int) (f1 : iF), lv = [some (iR 78), some (iI v), some (iI k), some (iI m)] ∧ st = [] ∧ f' = (mx [78] f f1) ∧ g = g' ∧ (m = 8) ∧ (0 ≤ k ∧ k ≤ m) ∧ (∀ j, 0 ≤ j → j < k → f1 78 j = v) ∧ (n : Int) = 8 - k)) 8 (by omega) rfl rfl (fun n j lv st f' g' hn hI O J hO hF hB => ?_) (fun hvs hin O J hO hF => ?_)
  · obtain ⟨rfl, k, m, f1, rfl, rfl, rfl, rfl, hm2, hk, hz, hm⟩ := hI
    refine ⟨fun (hh_1 : k < m) => ?_, fun (hh_1 : ¬ k < m) => ?_⟩
    · refine ⟨show 0 ≤ (k : Int) ∧ k < 8 from by omega, ?_⟩
      refine ⟨show inr (k + 1) from by constructor <;> omega, ?_⟩
      refine hB (8 - (k + 1) : Int).toNat ?_ ⟨rfl, (k + 1), m, (wv f1 78 k v), rfl, rfl, (mx_wv rfl rfl), rfl, ?_, ?_, ?_, ?_⟩
      · omega
      · omega
      · omega
      · intro j h0 h1
        rw [wv_i]
        by_cases e : j = k
        · rw [if_pos e]
        · rw [if_neg e]; exact hz j h0 (by omega)
      · omega
    · exact k0 f1 (fun j h0 h1 => hz j h0 (by omega))
  · refine hF (8 - 0 : Int).toNat ?_ ⟨rfl, 0, 8, f, rfl, rfl, mx_rf, rfl, ?_, ?_, ?_, ?_⟩
    · omega
    · rfl
    · omega
    · intro j h0 h1; omega
    · omega
set_option maxRecDepth 100000 in
set_option maxHeartbeats 4000000 in
theorem k_fill_63 {v : Int} (hd : 1 ≤ d) (k0 : ∀ f1 : iF, (∀ k, 0 ≤ k → k < 5 → f1 63 k = v) → Q none (mx [63] f f1) g) : wq d 86 [iR 63, iI v] f g Q := by
  obtain ⟨d, rfl⟩ : ∃ e, d = e + 1 := ⟨d - 1, by omega⟩
  refine i_meth [(5, 4)] (fun n j lv st f' g' => (j = 5 ∧ ∃ (k : Int) (m : Int) (f1 : iF), lv = [some (iR 63), some (iI v), some (iI k), some (iI m)] ∧ st = [] ∧ f' = (mx [63] f f1) ∧ g = g' ∧ (m = 5) ∧ (0 ≤ k ∧ k ≤ m) ∧ (∀ j, 0 ≤ j → j < k → f1 63 j = v) ∧ (n : Int) = 5 - k)) 5 (by omega) rfl rfl (fun n j lv st f' g' hn hI O J hO hF hB => ?_) (fun hvs hin O J hO hF => ?_)
  · obtain ⟨rfl, k, m, f1, rfl, rfl, rfl, rfl, hm2, hk, hz, hm⟩ := hI
    refine ⟨fun (hh_1 : k < m) => ?_, fun (hh_1 : ¬ k < m) => ?_⟩
    · refine ⟨show 0 ≤ (k : Int) ∧ k < 5 from by omega, ?_⟩
      refine ⟨show inr (k + 1) from by constructor <;> omega, ?_⟩
      refine hB (5 - (k + 1) : Int).toNat ?_ ⟨rfl, (k + 1), m, (wv f1 63 k v), rfl, rfl, (mx_wv rfl rfl), rfl, ?_, ?_, ?_, ?_⟩
      · omega
      · omega
      · omega
      · intro j h0 h1
        rw [wv_i]
        by_cases e : j = k
        · rw [if_pos e]
        · rw [if_neg e]; exact hz j h0 (by omega)
      · omega
    · exact k0 f1 (fun j h0 h1 => hz j h0 (by omega))
  · refine hF (5 - 0 : Int).toNat ?_ ⟨rfl, 0, 5, f, rfl, rfl, mx_rf, rfl, ?_, ?_, ?_, ?_⟩
    · omega
    · rfl
    · omega
    · intro j h0 h1; omega
    · omega
set_option maxRecDepth 100000 in
set_option maxHeartbeats 4000000 in
theorem k_fill_73 {v : Int} (hd : 1 ≤ d) (k0 : ∀ f1 : iF, (∀ k, 0 ≤ k → k < 4 → f1 73 k = v) → Q none (mx [73] f f1) g) : wq d 86 [iR 73, iI v] f g Q := by
  obtain ⟨d, rfl⟩ : ∃ e, d = e + 1 := ⟨d - 1, by omega⟩
  refine i_meth [(5, 4)] (fun n j lv st f' g' => (j = 5 ∧ ∃ (k : Int) (m : Int) (f1 : iF), lv = [some (iR 73), some (iI v), some (iI k), some (iI m)] ∧ st = [] ∧ f' = (mx [73] f f1) ∧ g = g' ∧ (m = 4) ∧ (0 ≤ k ∧ k ≤ m) ∧ (∀ j, 0 ≤ j → j < k → f1 73 j = v) ∧ (n : Int) = 4 - k)) 4 (by omega) rfl rfl (fun n j lv st f' g' hn hI O J hO hF hB => ?_) (fun hvs hin O J hO hF => ?_)
  · obtain ⟨rfl, k, m, f1, rfl, rfl, rfl, rfl, hm2, hk, hz, hm⟩ := hI
    refine ⟨fun (hh_1 : k < m) => ?_, fun (hh_1 : ¬ k < m) => ?_⟩
    · refine ⟨show 0 ≤ (k : Int) ∧ k < 4 from by omega, ?_⟩
      refine ⟨show inr (k + 1) from by constructor <;> omega, ?_⟩
      refine hB (4 - (k + 1) : Int).toNat ?_ ⟨rfl, (k + 1), m, (wv f1 73 k v), rfl, rfl, (mx_wv rfl rfl), rfl, ?_, ?_, ?_, ?_⟩
      · omega
      · omega
      · omega
      · intro j h0 h1
        rw [wv_i]
        by_cases e : j = k
        · rw [if_pos e]
        · rw [if_neg e]; exact hz j h0 (by omega)
      · omega
    · exact k0 f1 (fun j h0 h1 => hz j h0 (by omega))
  · refine hF (4 - 0 : Int).toNat ?_ ⟨rfl, 0, 4, f, rfl, rfl, mx_rf, rfl, ?_, ?_, ?_, ?_⟩
    · omega
    · rfl
    · omega
    · intro j h0 h1; omega
    · omega
set_option maxRecDepth 100000 in
set_option maxHeartbeats 4000000 in
theorem k_fill_77 {v : Int} (hd : 1 ≤ d) (k0 : ∀ f1 : iF, (∀ k, 0 ≤ k → k < 3 → f1 77 k = v) → Q none (mx [77] f f1) g) : wq d 86 [iR 77, iI v] f g Q := by
  obtain ⟨d, rfl⟩ : ∃ e, d = e + 1 := ⟨d - 1, by omega⟩
  refine i_meth [(5, 4)] (fun n j lv st f' g' => (j = 5 ∧ ∃ (k : Int) (m : Int) (f1 : iF), lv = [some (iR 77), some (iI v), some (iI k), some (iI m)] ∧ st = [] ∧ f' = (mx [77] f f1) ∧ g = g' ∧ (m = 3) ∧ (0 ≤ k ∧ k ≤ m) ∧ (∀ j, 0 ≤ j → j < k → f1 77 j = v) ∧ (n : Int) = 3 - k)) 3 (by omega) rfl rfl (fun n j lv st f' g' hn hI O J hO hF hB => ?_) (fun hvs hin O J hO hF => ?_)
  · obtain ⟨rfl, k, m, f1, rfl, rfl, rfl, rfl, hm2, hk, hz, hm⟩ := hI
    refine ⟨fun (hh_1 : k < m) => ?_, fun (hh_1 : ¬ k < m) => ?_⟩
    · refine ⟨show 0 ≤ (k : Int) ∧ k < 3 from by omega, ?_⟩
      refine ⟨show inr (k + 1) from by constructor <;> omega, ?_⟩
      refine hB (3 - (k + 1) : Int).toNat ?_ ⟨rfl, (k + 1), m, (wv f1 77 k v), rfl, rfl, (mx_wv rfl rfl), rfl, ?_, ?_, ?_, ?_⟩
      · omega
      · omega
      · omega
      · intro j h0 h1
        rw [wv_i]
        by_cases e : j = k
        · rw [if_pos e]
        · rw [if_neg e]; exact hz j h0 (by omega)
      · omega
    · exact k0 f1 (fun j h0 h1 => hz j h0 (by omega))
  · refine hF (3 - 0 : Int).toNat ?_ ⟨rfl, 0, 3, f, rfl, rfl, mx_rf, rfl, ?_, ?_, ?_, ?_⟩
    · omega
    · rfl
    · omega
    · intro j h0 h1; omega
    · omega
set_option maxRecDepth 100000 in
set_option maxHeartbeats 4000000 in
theorem k_fill_70 {v : Int} (hd : 1 ≤ d) (k0 : ∀ f1 : iF, (∀ k, 0 ≤ k → k < 8 → f1 70 k = v) → Q none (mx [70] f f1) g) : wq d 86 [iR 70, iI v] f g Q := by
  obtain ⟨d, rfl⟩ : ∃ e, d = e + 1 := ⟨d - 1, by omega⟩
  refine i_meth [(5, 4)] (fun n j lv st f' g' => (j = 5 ∧ ∃ (k : Int) (m : Int) (f1 : iF), lv = [some (iR 70), some (iI v), some (iI k), some (iI m)] ∧ st = [] ∧ f' = (mx [70] f f1) ∧ g = g' ∧ (m = 8) ∧ (0 ≤ k ∧ k ≤ m) ∧ (∀ j, 0 ≤ j → j < k → f1 70 j = v) ∧ (n : Int) = 8 - k)) 8 (by omega) rfl rfl (fun n j lv st f' g' hn hI O J hO hF hB => ?_) (fun hvs hin O J hO hF => ?_)
  · obtain ⟨rfl, k, m, f1, rfl, rfl, rfl, rfl, hm2, hk, hz, hm⟩ := hI
    refine ⟨fun (hh_1 : k < m) => ?_, fun (hh_1 : ¬ k < m) => ?_⟩
    · refine ⟨show 0 ≤ (k : Int) ∧ k < 8 from by omega, ?_⟩
      refine ⟨show inr (k + 1) from by constructor <;> omega, ?_⟩
      refine hB (8 - (k + 1) : Int).toNat ?_ ⟨rfl, (k + 1), m, (wv f1 70 k v), rfl, rfl, (mx_wv rfl rfl), rfl, ?_, ?_, ?_, ?_⟩
      · omega
      · omega
      · omega
      · intro j h0 h1
        rw [wv_i]
        by_cases e : j = k
        · rw [if_pos e]
        · rw [if_neg e]; exact hz j h0 (by omega)
      · omega
    · exact k0 f1 (fun j h0 h1 => hz j h0 (by omega))
  · refine hF (8 - 0 : Int).toNat ?_ ⟨rfl, 0, 8, f, rfl, rfl, mx_rf, rfl, ?_, ?_, ?_, ?_⟩
    · omega
    · rfl
    · omega
    · intro j h0 h1; omega
    · omega
set_option maxRecDepth 100000 in
set_option maxHeartbeats 4000000 in
theorem k_key (hd : 1 ≤ d) (k0 : Q (some (iJ (keyL (f 57)))) f g) : wq d 147 [iR 54] f g Q := by
  obtain ⟨d, rfl⟩ : ∃ e, d = e + 1 := ⟨d - 1, by omega⟩
  refine i_meth0 rfl rfl (fun O J hO => ?_)
  refine ⟨show 0 ≤ (6 : Int) ∧ 6 < 9 from by decide, ?_⟩
  refine ⟨show 0 ≤ (0 : Int) ∧ 0 < 9 from by decide, ?_⟩
  refine ⟨show 0 ≤ (2 : Int) ∧ 2 < 9 from by decide, ?_⟩
  refine ⟨show 0 ≤ (3 : Int) ∧ 3 < 9 from by decide, ?_⟩
  refine ⟨show 0 ≤ (5 : Int) ∧ 5 < 9 from by decide, ?_⟩
  refine ⟨show 0 ≤ (7 : Int) ∧ 7 < 9 from by decide, ?_⟩
  refine ⟨show 0 ≤ (8 : Int) ∧ 8 < 9 from by decide, ?_⟩
  unfold keyL at k0
  exact k0
theorem lf_ok {f : iF} {row : Int → Int} {i lf : Int} (h : lf = (if 0 < i then row (i - 1) else 29)) (ha : aC f lf = true) : lf = lfI (aC f) row i := by
  unfold lfI
  by_cases h0 : 0 < i
  · rw [if_pos h0] at h
    rw [if_pos ⟨h0, by rw [← h]; exact ha⟩]; exact h
  · rw [if_neg h0] at h
    have := aC_in lf ha
    omega
theorem lf_no {f : iF} {row : Int → Int} {i lf : Int} (h : lf = (if 0 < i then row (i - 1) else 29)) (ha : aC f lf = false) : 29 = lfI (aC f) row i := by
  unfold lfI
  by_cases h0 : 0 < i
  · rw [if_pos h0] at h
    rw [if_neg (fun e => by rw [← h, ha] at e; exact absurd e.2 (by decide))]
  · rw [if_neg (fun e => h0 e.1)]
set_option maxRecDepth 100000 in
set_option maxHeartbeats 4000000 in
theorem k_facts_pg {i s : Int} (hd : 2 ≤ d) (hi : 0 ≤ i ∧ i < (f (fv 10 1) 0)) (hrw : rowB (f (fv 10 1) 0) 60 (f 11)) (hsg : s = (f 11 i)) (hs : 0 ≤ s ∧ s < 29) (hcb : (coB f)) (hab : (abOK f)) (hlg : bit (f (fv 15 5) 0) 2 = true → (f 56 i) = lgI (aC f) (f 11) (f (fv 10 1) 0) i) (k0 : ∀ f1 : iF, (∀ k, 0 ≤ k → k ≤ 8 → f1 57 k = fcC (f (fv 15 5) 0) (fct (aC f) (f 7) (f (fv 1 15) 0) (f 11) (f (fv 10 1) 0) i) k) → Q none (mx [57] f f1) g) : wq d 146 [iR 54, iR 10, iI i, iI s] f g Q := by
  obtain ⟨d, rfl⟩ : ∃ e, d = e + 1 := ⟨d - 1, by omega⟩
  refine i_meth [(13, 5), (43, 7), (57, 7), (67, 7), (77, 7), (90, 7), (107, 7)] (fun n j lv st f' g' => (j = 13 ∧ ∃ (lf : Int), lv = [some (iR 54), some (iR 10), some (iI i), some (iI s), some (iR 15)] ∧ st = [(iI lf)] ∧ f = f' ∧ g = g' ∧ (lf = (if 0 < i then f 11 (i - 1) else 29)) ∧ (n : Int) = 1) ∨ (j = 43 ∧ ∃ (lf : Int) (who : Int) (x : Int) (f1 : iF), lv = [some (iR 54), some (iR 10), some (iI i), some (iI s), some (iR 15), some (iI lf), some (iI who)] ∧ st = [(iI x), (iI 2), (iR 57)] ∧ f' = (mx [57] f f1) ∧ g = g' ∧ (f1 57 0 = s) ∧ (f1 57 1 = i) ∧ (x = fcC (f (fv 15 5) 0) (fct (aC f) (f 7) (f (fv 1 15) 0) (f 11) (f (fv 10 1) 0) i) 2) ∧ (lf = (if 0 < i then f 11 (i - 1) else 29)) ∧ (who = f 7 s) ∧ (n : Int) = 1) ∨ (j = 57 ∧ ∃ (lf : Int) (who : Int) (x : Int) (f1 : iF), lv = [some (iR 54), some (iR 10), some (iI i), some (iI s), some (iR 15), some (iI lf), some (iI who)] ∧ st = [(iI x), (iI 3), (iR 57)] ∧ f' = (mx [57] f f1) ∧ g = g' ∧ (f1 57 0 = s) ∧ (f1 57 1 = i) ∧ (f1 57 2 = fcC (f (fv 15 5) 0) (fct (aC f) (f 7) (f (fv 1 15) 0) (f 11) (f (fv 10 1) 0) i) 2) ∧ (x = fcC (f (fv 15 5) 0) (fct (aC f) (f 7) (f (fv 1 15) 0) (f 11) (f (fv 10 1) 0) i) 3) ∧ (lf = (if 0 < i then f 11 (i - 1) else 29)) ∧ (who = f 7 s) ∧ (n : Int) = 1) ∨ (j = 67 ∧ ∃ (lf : Int) (who : Int) (x : Int) (f1 : iF), lv = [some (iR 54), some (iR 10), some (iI i), some (iI s), some (iR 15), some (iI lf), some (iI who)] ∧ st = [(iI x), (iI 4), (iR 57)] ∧ f' = (mx [57] f f1) ∧ g = g' ∧ (f1 57 0 = s) ∧ (f1 57 1 = i) ∧ (f1 57 2 = fcC (f (fv 15 5) 0) (fct (aC f) (f 7) (f (fv 1 15) 0) (f 11) (f (fv 10 1) 0) i) 2) ∧ (f1 57 3 = fcC (f (fv 15 5) 0) (fct (aC f) (f 7) (f (fv 1 15) 0) (f 11) (f (fv 10 1) 0) i) 3) ∧ (x = b1 (vwl s)) ∧ (lf = (if 0 < i then f 11 (i - 1) else 29)) ∧ (who = f 7 s) ∧ (n : Int) = 1) ∨ (j = 77 ∧ ∃ (lf : Int) (who : Int) (x : Int) (f1 : iF), lv = [some (iR 54), some (iR 10), some (iI i), some (iI s), some (iR 15), some (iI lf), some (iI who)] ∧ st = [(iI x), (iI 5), (iR 57)] ∧ f' = (mx [57] f f1) ∧ g = g' ∧ (f1 57 0 = s) ∧ (f1 57 1 = i) ∧ (f1 57 2 = fcC (f (fv 15 5) 0) (fct (aC f) (f 7) (f (fv 1 15) 0) (f 11) (f (fv 10 1) 0) i) 2) ∧ (f1 57 3 = fcC (f (fv 15 5) 0) (fct (aC f) (f 7) (f (fv 1 15) 0) (f 11) (f (fv 10 1) 0) i) 3) ∧ (f1 57 4 = b1 (vwl s)) ∧ (x = (if f 7 s = -1 then 9 else f 7 s)) ∧ (lf = (if 0 < i then f 11 (i - 1) else 29)) ∧ (who = f 7 s) ∧ (n : Int) = 1) ∨ (j = 90 ∧ ∃ (lf : Int) (who : Int) (x : Int) (f1 : iF), lv = [some (iR 54), some (iR 10), some (iI i), some (iI s), some (iR 15), some (iI lf), some (iI who)] ∧ st = [(iI x), (iI 6), (iR 57)] ∧ f' = (mx [57] f f1) ∧ g = g' ∧ (f1 57 0 = s) ∧ (f1 57 1 = i) ∧ (f1 57 2 = fcC (f (fv 15 5) 0) (fct (aC f) (f 7) (f (fv 1 15) 0) (f 11) (f (fv 10 1) 0) i) 2) ∧ (f1 57 3 = fcC (f (fv 15 5) 0) (fct (aC f) (f 7) (f (fv 1 15) 0) (f 11) (f (fv 10 1) 0) i) 3) ∧ (f1 57 4 = b1 (vwl s)) ∧ (f1 57 5 = (if f 7 s = -1 then 9 else f 7 s)) ∧ (x = fcC (f (fv 15 5) 0) (fct (aC f) (f 7) (f (fv 1 15) 0) (f 11) (f (fv 10 1) 0) i) 6) ∧ (lf = (if 0 < i then f 11 (i - 1) else 29)) ∧ (who = f 7 s) ∧ (n : Int) = 1) ∨ (j = 107 ∧ ∃ (lf : Int) (who : Int) (x : Int) (f1 : iF), lv = [some (iR 54), some (iR 10), some (iI i), some (iI s), some (iR 15), some (iI lf), some (iI who)] ∧ st = [(iI x), (iI 7), (iR 57)] ∧ f' = (mx [57] f f1) ∧ g = g' ∧ (f1 57 0 = s) ∧ (f1 57 1 = i) ∧ (f1 57 2 = fcC (f (fv 15 5) 0) (fct (aC f) (f 7) (f (fv 1 15) 0) (f 11) (f (fv 10 1) 0) i) 2) ∧ (f1 57 3 = fcC (f (fv 15 5) 0) (fct (aC f) (f 7) (f (fv 1 15) 0) (f 11) (f (fv 10 1) 0) i) 3) ∧ (f1 57 4 = b1 (vwl s)) ∧ (f1 57 5 = (if f 7 s = -1 then 9 else f 7 s)) ∧ (f1 57 6 = fcC (f (fv 15 5) 0) (fct (aC f) (f 7) (f (fv 1 15) 0) (f 11) (f (fv 10 1) 0) i) 6) ∧ (x = fcC (f (fv 15 5) 0) (fct (aC f) (f 7) (f (fv 1 15) 0) (f 11) (f (fv 10 1) 0) i) 7) ∧ (lf = (if 0 < i then f 11 (i - 1) else 29)) ∧ (who = f 7 s) ∧ (n : Int) = 1)) 1 (by omega) rfl rfl (fun n j lv st f' g' hn hI O J hO hF hB => ?_) (fun hvs hin O J hO hF => ?_)
  · rcases hI with hI | hI | hI | hI | hI | hI | hI
    · obtain ⟨rfl, lf, rfl, rfl, rfl, rfl, hlf, hm⟩ := hI
      have hrw1 := hrw.1
      have hcs := hcb.2 s (by omega) (by omega)
      refine ⟨show 0 ≤ (s : Int) ∧ s < 29 from by omega, ?_⟩
      refine ⟨show 0 ≤ (0 : Int) ∧ 0 < 9 from by decide, ?_⟩
      refine ⟨show 0 ≤ (1 : Int) ∧ 1 < 9 from by decide, ?_⟩
      refine hO (k_asks (by omega) (fun (hh_1 : bit (f (fv 15 5) 0) 2 = true) => ?_) (fun (hh_2 : bit (f (fv 15 5) 0) 2 = false) => ?_))
      · refine ⟨fun h => absurd (show (1 : Int) = 0 from h) (by decide), fun _ => ?_⟩
        refine ⟨show 0 ≤ (i : Int) ∧ i < 60 from by omega, ?_⟩
        refine hF (1 : Int).toNat ?_ (Or.inr (Or.inl ⟨rfl, lf, f 7 s, f 56 i, (wv (wv f 57 0 s) 57 1 i), rfl, rfl, (mx_wv rfl (mx_wv rfl mx_rf)), rfl, ?_, ?_, ?_, ?_, ?_, ?_⟩))
        · omega
        · first | exact zf0 | exact hx | rfl
        · first | exact zf1 | exact hx | rfl
        · first | (rw [fcC_t ‹bit _ 2 = true›, hlg ‹bit _ 2 = true›]; rfl) | rw [fcC_f (by decide) ‹bit _ 2 = false›]
        · exact hlf
        · first | exact hwho | rfl
        · omega
      · refine ⟨fun _ => ?_, fun h => absurd (show (0 : Int) = 0 from by decide) h⟩
        refine hF (1 : Int).toNat ?_ (Or.inr (Or.inl ⟨rfl, lf, f 7 s, 0, (wv (wv f 57 0 s) 57 1 i), rfl, rfl, (mx_wv rfl (mx_wv rfl mx_rf)), rfl, ?_, ?_, ?_, ?_, ?_, ?_⟩))
        · omega
        · first | exact zf0 | exact hx | rfl
        · first | exact zf1 | exact hx | rfl
        · first | (rw [fcC_t ‹bit _ 2 = true›, hlg ‹bit _ 2 = true›]; rfl) | rw [fcC_f (by decide) ‹bit _ 2 = false›]
        · exact hlf
        · first | exact hwho | rfl
        · omega
    · obtain ⟨rfl, lf, who, x, f1, rfl, rfl, rfl, rfl, zf0, zf1, hx, hlf, hwho, hm⟩ := hI
      have hrw1 := hrw.1
      refine ⟨show 0 ≤ (2 : Int) ∧ 2 < 9 from by decide, ?_⟩
      refine hO (k_asks (by omega) (fun (hh_3 : bit (f (fv 15 5) 0) 3 = true) => ?_) (fun (hh_4 : bit (f (fv 15 5) 0) 3 = false) => ?_))
      · refine ⟨fun h => absurd (show (1 : Int) = 0 from h) (by decide), fun _ => ?_⟩
        refine hO (k_ahead_pg (by omega) (show 0 ≤ i ∧ i < 60 from by omega) ?_)
        refine hF (1 : Int).toNat ?_ (Or.inr (Or.inr (Or.inl ⟨rfl, lf, who, cI (fun k => decide ((f 11 k) = s)) i, (wv f1 57 2 x), rfl, rfl, (mx_wv rfl rfl), rfl, ?_, ?_, ?_, ?_, ?_, ?_, ?_⟩)))
        · omega
        · first | exact zf0 | exact hx | rfl
        · first | exact zf1 | exact hx | rfl
        · first | exact zf2 | exact hx | rfl
        · first | (rw [fcC_t ‹bit _ 3 = true›, hsg]; rfl) | rw [fcC_f (by decide) ‹bit _ 3 = false›]
        · exact hlf
        · first | exact hwho | rfl
        · omega
      · refine ⟨fun _ => ?_, fun h => absurd (show (0 : Int) = 0 from by decide) h⟩
        refine hF (1 : Int).toNat ?_ (Or.inr (Or.inr (Or.inl ⟨rfl, lf, who, 0, (wv f1 57 2 x), rfl, rfl, (mx_wv rfl rfl), rfl, ?_, ?_, ?_, ?_, ?_, ?_, ?_⟩)))
        · omega
        · first | exact zf0 | exact hx | rfl
        · first | exact zf1 | exact hx | rfl
        · first | exact zf2 | exact hx | rfl
        · first | (rw [fcC_t ‹bit _ 3 = true›, hsg]; rfl) | rw [fcC_f (by decide) ‹bit _ 3 = false›]
        · exact hlf
        · first | exact hwho | rfl
        · omega
    · obtain ⟨rfl, lf, who, x, f1, rfl, rfl, rfl, rfl, zf0, zf1, zf2, hx, hlf, hwho, hm⟩ := hI
      have hrw1 := hrw.1
      refine ⟨show 0 ≤ (3 : Int) ∧ 3 < 9 from by decide, ?_⟩
      refine hO (k_isVowel (by omega) (fun (hh_5 : (s = 0 ∨ s = 4 ∨ s = 8 ∨ s = 14 ∨ s = 20)) => ?_) (fun (hh_6 : ¬ ((s = 0 ∨ s = 4 ∨ s = 8 ∨ s = 14 ∨ s = 20))) => ?_))
      · refine ⟨fun h => absurd (show (1 : Int) = 0 from h) (by decide), fun _ => ?_⟩
        refine hF (1 : Int).toNat ?_ (Or.inr (Or.inr (Or.inr (Or.inl ⟨rfl, lf, who, 1, (wv f1 57 3 x), rfl, rfl, (mx_wv rfl rfl), rfl, ?_, ?_, ?_, ?_, ?_, ?_, ?_, ?_⟩))))
        · omega
        · first | exact zf0 | exact hx | rfl
        · first | exact zf1 | exact hx | rfl
        · first | exact zf2 | exact hx | rfl
        · first | exact zf3 | exact hx | rfl
        · first | (rw [vwl_t (by assumption)]; rfl) | (rw [vwl_f (by assumption)]; rfl)
        · exact hlf
        · first | exact hwho | rfl
        · omega
      · refine ⟨fun _ => ?_, fun h => absurd (show (0 : Int) = 0 from by decide) h⟩
        refine hF (1 : Int).toNat ?_ (Or.inr (Or.inr (Or.inr (Or.inl ⟨rfl, lf, who, 0, (wv f1 57 3 x), rfl, rfl, (mx_wv rfl rfl), rfl, ?_, ?_, ?_, ?_, ?_, ?_, ?_, ?_⟩))))
        · omega
        · first | exact zf0 | exact hx | rfl
        · first | exact zf1 | exact hx | rfl
        · first | exact zf2 | exact hx | rfl
        · first | exact zf3 | exact hx | rfl
        · first | (rw [vwl_t (by assumption)]; rfl) | (rw [vwl_f (by assumption)]; rfl)
        · exact hlf
        · first | exact hwho | rfl
        · omega
    · obtain ⟨rfl, lf, who, x, f1, rfl, rfl, rfl, rfl, zf0, zf1, zf2, zf3, hx, hlf, hwho, hm⟩ := hI
      have hrw1 := hrw.1
      refine ⟨show 0 ≤ (4 : Int) ∧ 4 < 9 from by decide, ?_⟩
      refine ⟨fun (hh_7 : who = (-1)) => ?_, fun (hh_7 : ¬ who = (-1)) => ?_⟩
      · refine hF (1 : Int).toNat ?_ (Or.inr (Or.inr (Or.inr (Or.inr (Or.inl ⟨rfl, lf, who, 9, (wv f1 57 4 x), rfl, rfl, (mx_wv rfl rfl), rfl, ?_, ?_, ?_, ?_, ?_, ?_, ?_, ?_, ?_⟩)))))
        · omega
        · first | exact zf0 | exact hx | rfl
        · first | exact zf1 | exact hx | rfl
        · first | exact zf2 | exact hx | rfl
        · first | exact zf3 | exact hx | rfl
        · first | exact zf4 | exact hx | rfl
        · first | rw [if_pos (by omega)] | (rw [if_neg (by omega)]; exact hwho)
        · exact hlf
        · first | exact hwho | rfl
        · omega
      · refine hF (1 : Int).toNat ?_ (Or.inr (Or.inr (Or.inr (Or.inr (Or.inl ⟨rfl, lf, who, who, (wv f1 57 4 x), rfl, rfl, (mx_wv rfl rfl), rfl, ?_, ?_, ?_, ?_, ?_, ?_, ?_, ?_, ?_⟩)))))
        · omega
        · first | exact zf0 | exact hx | rfl
        · first | exact zf1 | exact hx | rfl
        · first | exact zf2 | exact hx | rfl
        · first | exact zf3 | exact hx | rfl
        · first | exact zf4 | exact hx | rfl
        · first | rw [if_pos (by omega)] | (rw [if_neg (by omega)]; exact hwho)
        · exact hlf
        · first | exact hwho | rfl
        · omega
    · obtain ⟨rfl, lf, who, x, f1, rfl, rfl, rfl, rfl, zf0, zf1, zf2, zf3, zf4, hx, hlf, hwho, hm⟩ := hI
      have hrw1 := hrw.1
      refine ⟨show 0 ≤ (5 : Int) ∧ 5 < 9 from by decide, ?_⟩
      refine hO (k_asks (by omega) (fun (hh_8 : bit (f (fv 15 5) 0) 6 = true) => ?_) (fun (hh_9 : bit (f (fv 15 5) 0) 6 = false) => ?_))
      · refine ⟨fun h => absurd (show (1 : Int) = 0 from h) (by decide), fun _ => ?_⟩
        refine hF (1 : Int).toNat ?_ (Or.inr (Or.inr (Or.inr (Or.inr (Or.inr (Or.inl ⟨rfl, lf, who, f (fv 1 15) 0, (wv f1 57 5 x), rfl, rfl, (mx_wv rfl rfl), rfl, ?_, ?_, ?_, ?_, ?_, ?_, ?_, ?_, ?_, ?_⟩))))))
        · omega
        · first | exact zf0 | exact hx | rfl
        · first | exact zf1 | exact hx | rfl
        · first | exact zf2 | exact hx | rfl
        · first | exact zf3 | exact hx | rfl
        · first | exact zf4 | exact hx | rfl
        · first | exact zf5 | exact hx | rfl
        · first | (rw [fcC_t ‹bit _ 6 = true›]; rfl) | rw [fcC_f (by decide) ‹bit _ 6 = false›]
        · exact hlf
        · first | exact hwho | rfl
        · omega
      · refine ⟨fun _ => ?_, fun h => absurd (show (0 : Int) = 0 from by decide) h⟩
        refine hF (1 : Int).toNat ?_ (Or.inr (Or.inr (Or.inr (Or.inr (Or.inr (Or.inl ⟨rfl, lf, who, 0, (wv f1 57 5 x), rfl, rfl, (mx_wv rfl rfl), rfl, ?_, ?_, ?_, ?_, ?_, ?_, ?_, ?_, ?_, ?_⟩))))))
        · omega
        · first | exact zf0 | exact hx | rfl
        · first | exact zf1 | exact hx | rfl
        · first | exact zf2 | exact hx | rfl
        · first | exact zf3 | exact hx | rfl
        · first | exact zf4 | exact hx | rfl
        · first | exact zf5 | exact hx | rfl
        · first | (rw [fcC_t ‹bit _ 6 = true›]; rfl) | rw [fcC_f (by decide) ‹bit _ 6 = false›]
        · exact hlf
        · first | exact hwho | rfl
        · omega
    · obtain ⟨rfl, lf, who, x, f1, rfl, rfl, rfl, rfl, zf0, zf1, zf2, zf3, zf4, zf5, hx, hlf, hwho, hm⟩ := hI
      have hrw1 := hrw.1
      refine ⟨show 0 ≤ (6 : Int) ∧ 6 < 9 from by decide, ?_⟩
      refine hO (k_asks (by omega) (fun (hh_10 : bit (f (fv 15 5) 0) 7 = true) => ?_) (fun (hh_11 : bit (f (fv 15 5) 0) 7 = false) => ?_))
      · refine ⟨fun h => absurd (show (1 : Int) = 0 from h) (by decide), fun _ => ?_⟩
        refine hO (k_isAble (by omega) (show (abOK f) from hab) (fun (hh_12 : (aC f) lf = true) => ?_) (fun (hh_13 : (aC f) lf = false) => ?_))
        · refine ⟨fun h => absurd (show (1 : Int) = 0 from h) (by decide), fun _ => ?_⟩
          refine hF (1 : Int).toNat ?_ (Or.inr (Or.inr (Or.inr (Or.inr (Or.inr (Or.inr (⟨rfl, lf, who, lf, (wv f1 57 6 x), rfl, rfl, (mx_wv rfl rfl), rfl, ?_, ?_, ?_, ?_, ?_, ?_, ?_, ?_, ?_, ?_, ?_⟩)))))))
          · omega
          · first | exact zf0 | exact hx | rfl
          · first | exact zf1 | exact hx | rfl
          · first | exact zf2 | exact hx | rfl
          · first | exact zf3 | exact hx | rfl
          · first | exact zf4 | exact hx | rfl
          · first | exact zf5 | exact hx | rfl
          · first | exact zf6 | exact hx | rfl
          · first | (rw [fcC_t ‹bit _ 7 = true›]; show _ = lfI (aC f) (f 11) i; exact lf_ok hlf ‹_›) | (rw [fcC_t ‹bit _ 7 = true›]; show _ = lfI (aC f) (f 11) i; exact lf_no hlf ‹_›) | rw [fcC_f (by decide) ‹bit _ 7 = false›]
          · exact hlf
          · first | exact hwho | rfl
          · omega
        · refine ⟨fun _ => ?_, fun h => absurd (show (0 : Int) = 0 from by decide) h⟩
          refine hF (1 : Int).toNat ?_ (Or.inr (Or.inr (Or.inr (Or.inr (Or.inr (Or.inr (⟨rfl, lf, who, 29, (wv f1 57 6 x), rfl, rfl, (mx_wv rfl rfl), rfl, ?_, ?_, ?_, ?_, ?_, ?_, ?_, ?_, ?_, ?_, ?_⟩)))))))
          · omega
          · first | exact zf0 | exact hx | rfl
          · first | exact zf1 | exact hx | rfl
          · first | exact zf2 | exact hx | rfl
          · first | exact zf3 | exact hx | rfl
          · first | exact zf4 | exact hx | rfl
          · first | exact zf5 | exact hx | rfl
          · first | exact zf6 | exact hx | rfl
          · first | (rw [fcC_t ‹bit _ 7 = true›]; show _ = lfI (aC f) (f 11) i; exact lf_ok hlf ‹_›) | (rw [fcC_t ‹bit _ 7 = true›]; show _ = lfI (aC f) (f 11) i; exact lf_no hlf ‹_›) | rw [fcC_f (by decide) ‹bit _ 7 = false›]
          · exact hlf
          · first | exact hwho | rfl
          · omega
      · refine ⟨fun _ => ?_, fun h => absurd (show (0 : Int) = 0 from by decide) h⟩
        refine hF (1 : Int).toNat ?_ (Or.inr (Or.inr (Or.inr (Or.inr (Or.inr (Or.inr (⟨rfl, lf, who, 0, (wv f1 57 6 x), rfl, rfl, (mx_wv rfl rfl), rfl, ?_, ?_, ?_, ?_, ?_, ?_, ?_, ?_, ?_, ?_, ?_⟩)))))))
        · omega
        · first | exact zf0 | exact hx | rfl
        · first | exact zf1 | exact hx | rfl
        · first | exact zf2 | exact hx | rfl
        · first | exact zf3 | exact hx | rfl
        · first | exact zf4 | exact hx | rfl
        · first | exact zf5 | exact hx | rfl
        · first | exact zf6 | exact hx | rfl
        · first | (rw [fcC_t ‹bit _ 7 = true›]; show _ = lfI (aC f) (f 11) i; exact lf_ok hlf ‹_›) | (rw [fcC_t ‹bit _ 7 = true›]; show _ = lfI (aC f) (f 11) i; exact lf_no hlf ‹_›) | rw [fcC_f (by decide) ‹bit _ 7 = false›]
        · exact hlf
        · first | exact hwho | rfl
        · omega
    · obtain ⟨rfl, lf, who, x, f1, rfl, rfl, rfl, rfl, zf0, zf1, zf2, zf3, zf4, zf5, zf6, hx, hlf, hwho, hm⟩ := hI
      have hrw1 := hrw.1
      refine ⟨show 0 ≤ (7 : Int) ∧ 7 < 9 from by decide, ?_⟩
      refine hO (k_isLetter (by omega) (fun (hh_14 : 0 ≤ s) (hh_15 : s < 26) => ?_) (fun (hh_16 : ¬ (0 ≤ s ∧ s < 26)) => ?_))
      · refine ⟨fun h => absurd (show (1 : Int) = 0 from h) (by decide), fun _ => ?_⟩
        refine hO (k_isLetter (by omega) (fun (hh_17 : 0 ≤ lf) (hh_18 : lf < 26) => ?_) (fun (hh_19 : ¬ (0 ≤ lf ∧ lf < 26)) => ?_))
        · refine ⟨fun h => absurd (show (1 : Int) = 0 from h) (by decide), fun _ => ?_⟩
          refine ⟨show 0 ≤ (8 : Int) ∧ 8 < 9 from by decide, ?_⟩
          by_cases hi0 : 0 < i
          · rw [if_pos hi0] at hlf
            have hril := hrw.2 (i - 1) (by omega) (by omega)
            have hx8 : (0 : Int) = fsI (f 11) (f (fv 10 1) 0) i := by
                    unfold fsI
                    first | (rw [isL_t.mpr (show 0 ≤ i ∧ i < (f (fv 10 1) 0) ∧ f 11 i < 26 by omega), isL_f.mpr (show ¬ (0 ≤ i - 1 ∧ i - 1 < (f (fv 10 1) 0) ∧ f 11 (i - 1) < 26) by omega)]; rfl) | (rw [isL_f.mpr (show ¬ (0 ≤ i ∧ i < (f (fv 10 1) 0) ∧ f 11 i < 26) by omega)]; rfl) | (rw [isL_t.mpr (show 0 ≤ i ∧ i < (f (fv 10 1) 0) ∧ f 11 i < 26 by omega), isL_t.mpr (show 0 ≤ i - 1 ∧ i - 1 < (f (fv 10 1) 0) ∧ f 11 (i - 1) < 26 by omega)]; rfl)
            rw [show (wv (wv (mx [57] f f1) 57 7 x) 57 8 0) = mx [57] f (wv (wv f1 57 7 x) 57 8 0) from (mx_wv rfl (mx_wv rfl rfl))]
            exact k0 (wv (wv f1 57 7 x) 57 8 0) (fun k h0 h1 => by
                    have h : k = 0 ∨ k = 1 ∨ k = 2 ∨ k = 3 ∨ k = 4 ∨ k = 5 ∨ k = 6 ∨ k = 7 ∨ k = 8 := by omega
                    rcases h with h | h | h | h | h | h | h | h | h <;> subst h
                    · exact zf0.trans hsg
                    · exact zf1
                    · exact zf2
                    · exact zf3
                    · rw [show ((wv (wv f1 57 7 x) 57 8 0) 57 4 : Int) = b1 (vwl (f 11 i)) from zf4.trans (by rw [hsg])]; rfl
                    · rw [show ((wv (wv f1 57 7 x) 57 8 0) 57 5 : Int) = (if f 7 (f 11 i) = -1 then 9 else f 7 (f 11 i)) from zf5.trans (by rw [hsg])]; rfl
                    · exact zf6
                    · exact hx
                    · exact hx8)
          · rw [if_neg hi0] at hlf
            have hx8 : (0 : Int) = fsI (f 11) (f (fv 10 1) 0) i := by
                    unfold fsI
                    first | (rw [isL_t.mpr (show 0 ≤ i ∧ i < (f (fv 10 1) 0) ∧ f 11 i < 26 by omega), isL_f.mpr (show ¬ (0 ≤ i - 1 ∧ i - 1 < (f (fv 10 1) 0) ∧ f 11 (i - 1) < 26) by omega)]; rfl) | (rw [isL_f.mpr (show ¬ (0 ≤ i ∧ i < (f (fv 10 1) 0) ∧ f 11 i < 26) by omega)]; rfl) | (rw [isL_t.mpr (show 0 ≤ i ∧ i < (f (fv 10 1) 0) ∧ f 11 i < 26 by omega), isL_t.mpr (show 0 ≤ i - 1 ∧ i - 1 < (f (fv 10 1) 0) ∧ f 11 (i - 1) < 26 by omega)]; rfl)
            rw [show (wv (wv (mx [57] f f1) 57 7 x) 57 8 0) = mx [57] f (wv (wv f1 57 7 x) 57 8 0) from (mx_wv rfl (mx_wv rfl rfl))]
            exact k0 (wv (wv f1 57 7 x) 57 8 0) (fun k h0 h1 => by
                    have h : k = 0 ∨ k = 1 ∨ k = 2 ∨ k = 3 ∨ k = 4 ∨ k = 5 ∨ k = 6 ∨ k = 7 ∨ k = 8 := by omega
                    rcases h with h | h | h | h | h | h | h | h | h <;> subst h
                    · exact zf0.trans hsg
                    · exact zf1
                    · exact zf2
                    · exact zf3
                    · rw [show ((wv (wv f1 57 7 x) 57 8 0) 57 4 : Int) = b1 (vwl (f 11 i)) from zf4.trans (by rw [hsg])]; rfl
                    · rw [show ((wv (wv f1 57 7 x) 57 8 0) 57 5 : Int) = (if f 7 (f 11 i) = -1 then 9 else f 7 (f 11 i)) from zf5.trans (by rw [hsg])]; rfl
                    · exact zf6
                    · exact hx
                    · exact hx8)
        · refine ⟨fun _ => ?_, fun h => absurd (show (0 : Int) = 0 from by decide) h⟩
          refine ⟨show 0 ≤ (8 : Int) ∧ 8 < 9 from by decide, ?_⟩
          by_cases hi0 : 0 < i
          · rw [if_pos hi0] at hlf
            have hril := hrw.2 (i - 1) (by omega) (by omega)
            have hx8 : (1 : Int) = fsI (f 11) (f (fv 10 1) 0) i := by
                    unfold fsI
                    first | (rw [isL_t.mpr (show 0 ≤ i ∧ i < (f (fv 10 1) 0) ∧ f 11 i < 26 by omega), isL_f.mpr (show ¬ (0 ≤ i - 1 ∧ i - 1 < (f (fv 10 1) 0) ∧ f 11 (i - 1) < 26) by omega)]; rfl) | (rw [isL_f.mpr (show ¬ (0 ≤ i ∧ i < (f (fv 10 1) 0) ∧ f 11 i < 26) by omega)]; rfl) | (rw [isL_t.mpr (show 0 ≤ i ∧ i < (f (fv 10 1) 0) ∧ f 11 i < 26 by omega), isL_t.mpr (show 0 ≤ i - 1 ∧ i - 1 < (f (fv 10 1) 0) ∧ f 11 (i - 1) < 26 by omega)]; rfl)
            rw [show (wv (wv (mx [57] f f1) 57 7 x) 57 8 1) = mx [57] f (wv (wv f1 57 7 x) 57 8 1) from (mx_wv rfl (mx_wv rfl rfl))]
            exact k0 (wv (wv f1 57 7 x) 57 8 1) (fun k h0 h1 => by
                    have h : k = 0 ∨ k = 1 ∨ k = 2 ∨ k = 3 ∨ k = 4 ∨ k = 5 ∨ k = 6 ∨ k = 7 ∨ k = 8 := by omega
                    rcases h with h | h | h | h | h | h | h | h | h <;> subst h
                    · exact zf0.trans hsg
                    · exact zf1
                    · exact zf2
                    · exact zf3
                    · rw [show ((wv (wv f1 57 7 x) 57 8 1) 57 4 : Int) = b1 (vwl (f 11 i)) from zf4.trans (by rw [hsg])]; rfl
                    · rw [show ((wv (wv f1 57 7 x) 57 8 1) 57 5 : Int) = (if f 7 (f 11 i) = -1 then 9 else f 7 (f 11 i)) from zf5.trans (by rw [hsg])]; rfl
                    · exact zf6
                    · exact hx
                    · exact hx8)
          · rw [if_neg hi0] at hlf
            have hx8 : (1 : Int) = fsI (f 11) (f (fv 10 1) 0) i := by
                    unfold fsI
                    first | (rw [isL_t.mpr (show 0 ≤ i ∧ i < (f (fv 10 1) 0) ∧ f 11 i < 26 by omega), isL_f.mpr (show ¬ (0 ≤ i - 1 ∧ i - 1 < (f (fv 10 1) 0) ∧ f 11 (i - 1) < 26) by omega)]; rfl) | (rw [isL_f.mpr (show ¬ (0 ≤ i ∧ i < (f (fv 10 1) 0) ∧ f 11 i < 26) by omega)]; rfl) | (rw [isL_t.mpr (show 0 ≤ i ∧ i < (f (fv 10 1) 0) ∧ f 11 i < 26 by omega), isL_t.mpr (show 0 ≤ i - 1 ∧ i - 1 < (f (fv 10 1) 0) ∧ f 11 (i - 1) < 26 by omega)]; rfl)
            rw [show (wv (wv (mx [57] f f1) 57 7 x) 57 8 1) = mx [57] f (wv (wv f1 57 7 x) 57 8 1) from (mx_wv rfl (mx_wv rfl rfl))]
            exact k0 (wv (wv f1 57 7 x) 57 8 1) (fun k h0 h1 => by
                    have h : k = 0 ∨ k = 1 ∨ k = 2 ∨ k = 3 ∨ k = 4 ∨ k = 5 ∨ k = 6 ∨ k = 7 ∨ k = 8 := by omega
                    rcases h with h | h | h | h | h | h | h | h | h <;> subst h
                    · exact zf0.trans hsg
                    · exact zf1
                    · exact zf2
                    · exact zf3
                    · rw [show ((wv (wv f1 57 7 x) 57 8 1) 57 4 : Int) = b1 (vwl (f 11 i)) from zf4.trans (by rw [hsg])]; rfl
                    · rw [show ((wv (wv f1 57 7 x) 57 8 1) 57 5 : Int) = (if f 7 (f 11 i) = -1 then 9 else f 7 (f 11 i)) from zf5.trans (by rw [hsg])]; rfl
                    · exact zf6
                    · exact hx
                    · exact hx8)
      · refine ⟨fun _ => ?_, fun h => absurd (show (0 : Int) = 0 from by decide) h⟩
        refine ⟨show 0 ≤ (8 : Int) ∧ 8 < 9 from by decide, ?_⟩
        by_cases hi0 : 0 < i
        · rw [if_pos hi0] at hlf
          have hril := hrw.2 (i - 1) (by omega) (by omega)
          have hx8 : (0 : Int) = fsI (f 11) (f (fv 10 1) 0) i := by
                  unfold fsI
                  first | (rw [isL_t.mpr (show 0 ≤ i ∧ i < (f (fv 10 1) 0) ∧ f 11 i < 26 by omega), isL_f.mpr (show ¬ (0 ≤ i - 1 ∧ i - 1 < (f (fv 10 1) 0) ∧ f 11 (i - 1) < 26) by omega)]; rfl) | (rw [isL_f.mpr (show ¬ (0 ≤ i ∧ i < (f (fv 10 1) 0) ∧ f 11 i < 26) by omega)]; rfl) | (rw [isL_t.mpr (show 0 ≤ i ∧ i < (f (fv 10 1) 0) ∧ f 11 i < 26 by omega), isL_t.mpr (show 0 ≤ i - 1 ∧ i - 1 < (f (fv 10 1) 0) ∧ f 11 (i - 1) < 26 by omega)]; rfl)
          rw [show (wv (wv (mx [57] f f1) 57 7 x) 57 8 0) = mx [57] f (wv (wv f1 57 7 x) 57 8 0) from (mx_wv rfl (mx_wv rfl rfl))]
          exact k0 (wv (wv f1 57 7 x) 57 8 0) (fun k h0 h1 => by
                  have h : k = 0 ∨ k = 1 ∨ k = 2 ∨ k = 3 ∨ k = 4 ∨ k = 5 ∨ k = 6 ∨ k = 7 ∨ k = 8 := by omega
                  rcases h with h | h | h | h | h | h | h | h | h <;> subst h
                  · exact zf0.trans hsg
                  · exact zf1
                  · exact zf2
                  · exact zf3
                  · rw [show ((wv (wv f1 57 7 x) 57 8 0) 57 4 : Int) = b1 (vwl (f 11 i)) from zf4.trans (by rw [hsg])]; rfl
                  · rw [show ((wv (wv f1 57 7 x) 57 8 0) 57 5 : Int) = (if f 7 (f 11 i) = -1 then 9 else f 7 (f 11 i)) from zf5.trans (by rw [hsg])]; rfl
                  · exact zf6
                  · exact hx
                  · exact hx8)
        · rw [if_neg hi0] at hlf
          have hx8 : (0 : Int) = fsI (f 11) (f (fv 10 1) 0) i := by
                  unfold fsI
                  first | (rw [isL_t.mpr (show 0 ≤ i ∧ i < (f (fv 10 1) 0) ∧ f 11 i < 26 by omega), isL_f.mpr (show ¬ (0 ≤ i - 1 ∧ i - 1 < (f (fv 10 1) 0) ∧ f 11 (i - 1) < 26) by omega)]; rfl) | (rw [isL_f.mpr (show ¬ (0 ≤ i ∧ i < (f (fv 10 1) 0) ∧ f 11 i < 26) by omega)]; rfl) | (rw [isL_t.mpr (show 0 ≤ i ∧ i < (f (fv 10 1) 0) ∧ f 11 i < 26 by omega), isL_t.mpr (show 0 ≤ i - 1 ∧ i - 1 < (f (fv 10 1) 0) ∧ f 11 (i - 1) < 26 by omega)]; rfl)
          rw [show (wv (wv (mx [57] f f1) 57 7 x) 57 8 0) = mx [57] f (wv (wv f1 57 7 x) 57 8 0) from (mx_wv rfl (mx_wv rfl rfl))]
          exact k0 (wv (wv f1 57 7 x) 57 8 0) (fun k h0 h1 => by
                  have h : k = 0 ∨ k = 1 ∨ k = 2 ∨ k = 3 ∨ k = 4 ∨ k = 5 ∨ k = 6 ∨ k = 7 ∨ k = 8 := by omega
                  rcases h with h | h | h | h | h | h | h | h | h <;> subst h
                  · exact zf0.trans hsg
                  · exact zf1
                  · exact zf2
                  · exact zf3
                  · rw [show ((wv (wv f1 57 7 x) 57 8 0) 57 4 : Int) = b1 (vwl (f 11 i)) from zf4.trans (by rw [hsg])]; rfl
                  · rw [show ((wv (wv f1 57 7 x) 57 8 0) 57 5 : Int) = (if f 7 (f 11 i) = -1 then 9 else f 7 (f 11 i)) from zf5.trans (by rw [hsg])]; rfl
                  · exact zf6
                  · exact hx
                  · exact hx8)
  · have hrw1 := hrw.1
    have hri := hrw.2 i (by omega) (by omega)
    have hcs := hcb.2 s (by omega) (by omega)
    have hcb1 := hcb.1
    refine ⟨fun (hh_20 : 0 < i) => ?_, fun (hh_20 : ¬ 0 < i) => ?_⟩
    · refine Or.inl ⟨show inr (i - 1) from by constructor <;> omega, ?_⟩
      refine hO (k_get_pg (by omega) (show 0 ≤ (i - 1) ∧ (i - 1) < 60 from by omega) ?_)
      refine hF (1 : Int).toNat ?_ (Or.inl ⟨rfl, (f 11 (i - 1)), rfl, rfl, rfl, rfl, ?_, ?_⟩)
      · omega
      · first | rw [if_pos (by omega)] | rw [if_neg (by omega)]
      · omega
    · refine hF (1 : Int).toNat ?_ (Or.inl ⟨rfl, 29, rfl, rfl, rfl, rfl, ?_, ?_⟩)
      · omega
      · first | rw [if_pos (by omega)] | rw [if_neg (by omega)]
      · omega
set_option maxRecDepth 100000 in
set_option maxHeartbeats 4000000 in
theorem k_payAt_pg {i : Int} (hd : 3 ≤ d) (hi : 0 ≤ i ∧ i < (f (fv 10 1) 0)) (hrw : rowB (f (fv 10 1) 0) 60 (f 11)) (hsn : (f 11 i) < 29) (hlg : bit (f (fv 15 5) 0) 2 = true → (f 56 i) = lgI (aC f) (f 11) (f (fv 10 1) 0) i) (hcb : (coB f)) (hab : (abOK f)) (hl : (lC f)) (hA : lwask (f (fv 15 5) 0) (lwC f)) (hday : 0 ≤ (f (fv 1 15) 0) ∧ (f (fv 1 15) 0) ≤ 9999) (hmo : mOK (lwC f) g) (k0 : ∀ f1 : iF, ∀ g1 : iG, (mOK (lwC f) g1) → Q (some (iI (pyI (aC f) (f 7) (f (fv 1 15) 0) (lwC f) (f 11) (f (fv 10 1) 0) i))) (mx [57, 58] f f1) g1) : wq d 144 [iR 54, iR 10, iI i] f g Q := by
  obtain ⟨d, rfl⟩ : ∃ e, d = e + 1 := ⟨d - 1, by omega⟩
  refine i_meth0 rfl rfl (fun O J hO => ?_)
  have hrw1 := hrw.1
  have hri := hrw.2 i (by omega) (by omega)
  have hcs := hcb.2 (f 11 i) (by omega) (by omega)
  have hcb1 := hcb.1
  refine hO (k_get_pg (by omega) (show 0 ≤ i ∧ i < 60 from by omega) ?_)
  refine ⟨fun h => absurd (show i < 0 from h) (by omega), fun _ => ?_⟩
  refine ⟨fun _ => ?_, fun h => absurd (show i < 60 from by omega) h⟩
  refine hO (k_isSign (by omega) (fun (hh_1 : 0 ≤ (f 11 i)) (hh_2 : (f 11 i) < 29) => ?_) (fun (hh_3 : ¬ (0 ≤ (f 11 i) ∧ (f 11 i) < 29)) => ?_))
  · refine ⟨fun h => absurd (show (1 : Int) = 0 from h) (by decide), fun _ => ?_⟩
    refine ⟨fun (hh_4 : f (fv 15 4) 0 = 0) => ?_, fun (hh_4 : ¬ f (fv 15 4) 0 = 0) => ?_⟩
    · have he : pyI (aC f) (f 7) (f (fv 1 15) 0) (lwC f) (f 11) (f (fv 10 1) 0) i = 1 := by unfold pyI lwC; rw [‹f (fv 15 4) 0 = 0›]; rfl
      rw [he] at k0
      have hk := k0 f g hmo
      rw [← mx_rf] at hk
      exact hk
    · refine hO (k_facts_pg (by omega) (show 0 ≤ i ∧ i < (f (fv 10 1) 0) from hi) (show rowB (f (fv 10 1) 0) 60 (f 11) from hrw) (show (f 11 i) = (f 11 i) from rfl) (show 0 ≤ (f 11 i) ∧ (f 11 i) < 29 from by omega) (show (coB f) from hcb) (show (abOK f) from hab) (show bit (f (fv 15 5) 0) 2 = true → (f 56 i) = lgI (aC f) (f 11) (f (fv 10 1) 0) i from hlg) (fun f1_5 (hh_6 : ∀ k, 0 ≤ k → k ≤ 8 → f1_5 57 k = fcC (f (fv 15 5) 0) (fct (aC f) (f 7) (f (fv 1 15) 0) (f 11) (f (fv 10 1) 0) i) k) => ?_))
      have hF57 := hh_6
      have hpay : pyI (aC f) (f 7) (f (fv 1 15) 0) (lwC f) (f 11) (f (fv 10 1) 0) i = payM (f1_5 57) (lwC f) := by unfold pyI; rw [← payM_ask (m := (f (fv 15 5) 0)) _ hA, payM_cg (fun k a b => (hF57 k a b).symm)]
      have hfok : fok (f1_5 57) := fok_cg hF57 (fok_fct aC_in (by omega) hday (by omega) (by omega))
      have h571 : f1_5 57 1 = i := (hF57 1 (by decide) (by decide)).trans rfl
      have hfa : faok (f1_5 57) := fok_fa hfok ⟨by omega, by omega⟩
      have h577 := hfok.2.2.2.2.2.1
      refine Or.inl ⟨show inr (i * 32) from by constructor <;> omega, ?_⟩
      refine ⟨show 0 ≤ (7 : Int) ∧ 7 < 9 from by decide, ?_⟩
      refine Or.inl ⟨show inr ((f 11 i) + (f1_5 57 7)) from by constructor <;> omega, ?_⟩
      refine ⟨show ¬ (32 : Int) = 0 from by decide, show inr (((f 11 i) + (f1_5 57 7)).tmod 32) from by exact tm32 (by omega), ?_⟩
      have htm : ((f 11 i) + (f1_5 57 7)).tmod 32 = ((f 11 i) + (f1_5 57 7)) % 32 := Int.tmod_eq_emod_of_nonneg (by omega)
      refine Or.inl ⟨show inr ((i * 32) + (((f 11 i) + (f1_5 57 7)).tmod 32)) from by constructor <;> omega, ?_⟩
      refine ⟨fun h => absurd (show ((i * 32) + (((f 11 i) + (f1_5 57 7)).tmod 32)) < 0 from h) (by omega), fun _ => ?_⟩
      refine ⟨fun (hh_7 : ((i * 32) + (((f 11 i) + (f1_5 57 7)).tmod 32)) < 384) => ?_, fun (hh_7 : ¬ ((i * 32) + (((f 11 i) + (f1_5 57 7)).tmod 32)) < 384) => ?_⟩
      · refine hO (k_key (by omega) ?_)
        refine ⟨show 0 ≤ (((i * 32) + (((f 11 i) + (f1_5 57 7)).tmod 32)) : Int) ∧ ((i * 32) + (((f 11 i) + (f1_5 57 7)).tmod 32)) < 384 from by omega, ?_⟩
        refine ⟨fun (hh_8 : (lg_cmp (b_ushrL (g 59 ((i * 32) + (((f 11 i) + (f1_5 57 7)).tmod 32))) 7) (keyL (f1_5 57))).toInt = 0) => ?_, fun (hh_8 : ¬ (lg_cmp (b_ushrL (g 59 ((i * 32) + (((f 11 i) + (f1_5 57 7)).tmod 32))) 7) (keyL (f1_5 57))).toInt = 0) => ?_⟩
        · refine ⟨show 0 ≤ (((i * 32) + (((f 11 i) + (f1_5 57 7)).tmod 32)) : Int) ∧ ((i * 32) + (((f 11 i) + (f1_5 57 7)).tmod 32)) < 384 from by omega, ?_⟩
          have hm2 := mOK_hit hmo (c := ((i * 32) + (((f 11 i) + (f1_5 57 7)).tmod 32))) (by omega) (by omega) hfok (by omega) (lcmp_0.mp ‹(lg_cmp _ _).toInt = 0›)
          rw [hpay, ← hm2] at k0
          have hk := k0 (mx [57] f f1_5) g hmo
          rw [show mx [57, 58] f (mx [57] f f1_5) = (mx [57] f f1_5) from ((mx_mx rfl mx_rf)).symm] at hk
          exact hk
        · refine hO (k_payFor (by omega) (show (lC f) from hl) (show faok (f1_5 57) from hfa) (fun f1_9 => ?_))
          refine ⟨show 0 ≤ (((i * 32) + (((f 11 i) + (f1_5 57 7)).tmod 32)) : Int) ∧ ((i * 32) + (((f 11 i) + (f1_5 57 7)).tmod 32)) < 384 from by omega, ?_⟩
          refine ⟨show 0 ≤ (((i * 32) + (((f 11 i) + (f1_5 57 7)).tmod 32)) : Int) ∧ ((i * 32) + (((f 11 i) + (f1_5 57 7)).tmod 32)) < 384 from by omega, ?_⟩
          obtain ⟨hm1, hm2⟩ := mOK_put hmo (c := ((i * 32) + (((f 11 i) + (f1_5 57 7)).tmod 32))) (by omega) (by omega) hfok (by omega)
          rw [hpay, ← hm2] at k0
          have hk := k0 (mx [58] (mx [57] f f1_5) f1_9) (wg g 59 ((i * 32) + (((f 11 i) + (f1_5 57 7)).tmod 32)) ((b_shlL (keyL (f1_5 57)) 7) ||| (b_i2l (payM (f1_5 57) (lwC f))))) hm1
          rw [show mx [57, 58] f (mx [58] (mx [57] f f1_5) f1_9) = (mx [58] (mx [57] f f1_5) f1_9) from ((mx_mx rfl (mx_mx rfl mx_rf))).symm] at hk
          exact hk
      · refine hO (k_payFor (by omega) (show (lC f) from hl) (show faok (f1_5 57) from hfa) (fun f1_10 => ?_))
        rw [hpay] at k0
        have hk := k0 (mx [58] (mx [57] f f1_5) f1_10) g hmo
        rw [show mx [57, 58] f (mx [58] (mx [57] f f1_5) f1_10) = (mx [58] (mx [57] f f1_5) f1_10) from ((mx_mx rfl (mx_mx rfl mx_rf))).symm] at hk
        exact hk
  · omega
set_option maxRecDepth 100000 in
set_option maxHeartbeats 4000000 in
theorem k_facts_rm {i s : Int} (hd : 2 ≤ d) (hi : 0 ≤ i ∧ i < (f (fv 64 1) 0)) (hrw : rowB (f (fv 64 1) 0) 12 (f 65)) (hsg : s = (f 65 i)) (hs : 0 ≤ s ∧ s < 29) (hcb : (coB f)) (hab : (abOK f)) (hlg : bit (f (fv 15 5) 0) 2 = true → (f 56 i) = lgI (aC f) (f 65) (f (fv 64 1) 0) i) (k0 : ∀ f1 : iF, (∀ k, 0 ≤ k → k ≤ 8 → f1 57 k = fcC (f (fv 15 5) 0) (fct (aC f) (f 7) (f (fv 1 15) 0) (f 65) (f (fv 64 1) 0) i) k) → Q none (mx [57] f f1) g) : wq d 146 [iR 54, iR 64, iI i, iI s] f g Q := by
  obtain ⟨d, rfl⟩ : ∃ e, d = e + 1 := ⟨d - 1, by omega⟩
  refine i_meth [(13, 5), (43, 7), (57, 7), (67, 7), (77, 7), (90, 7), (107, 7)] (fun n j lv st f' g' => (j = 13 ∧ ∃ (lf : Int), lv = [some (iR 54), some (iR 64), some (iI i), some (iI s), some (iR 15)] ∧ st = [(iI lf)] ∧ f = f' ∧ g = g' ∧ (lf = (if 0 < i then f 65 (i - 1) else 29)) ∧ (n : Int) = 1) ∨ (j = 43 ∧ ∃ (lf : Int) (who : Int) (x : Int) (f1 : iF), lv = [some (iR 54), some (iR 64), some (iI i), some (iI s), some (iR 15), some (iI lf), some (iI who)] ∧ st = [(iI x), (iI 2), (iR 57)] ∧ f' = (mx [57] f f1) ∧ g = g' ∧ (f1 57 0 = s) ∧ (f1 57 1 = i) ∧ (x = fcC (f (fv 15 5) 0) (fct (aC f) (f 7) (f (fv 1 15) 0) (f 65) (f (fv 64 1) 0) i) 2) ∧ (lf = (if 0 < i then f 65 (i - 1) else 29)) ∧ (who = f 7 s) ∧ (n : Int) = 1) ∨ (j = 57 ∧ ∃ (lf : Int) (who : Int) (x : Int) (f1 : iF), lv = [some (iR 54), some (iR 64), some (iI i), some (iI s), some (iR 15), some (iI lf), some (iI who)] ∧ st = [(iI x), (iI 3), (iR 57)] ∧ f' = (mx [57] f f1) ∧ g = g' ∧ (f1 57 0 = s) ∧ (f1 57 1 = i) ∧ (f1 57 2 = fcC (f (fv 15 5) 0) (fct (aC f) (f 7) (f (fv 1 15) 0) (f 65) (f (fv 64 1) 0) i) 2) ∧ (x = fcC (f (fv 15 5) 0) (fct (aC f) (f 7) (f (fv 1 15) 0) (f 65) (f (fv 64 1) 0) i) 3) ∧ (lf = (if 0 < i then f 65 (i - 1) else 29)) ∧ (who = f 7 s) ∧ (n : Int) = 1) ∨ (j = 67 ∧ ∃ (lf : Int) (who : Int) (x : Int) (f1 : iF), lv = [some (iR 54), some (iR 64), some (iI i), some (iI s), some (iR 15), some (iI lf), some (iI who)] ∧ st = [(iI x), (iI 4), (iR 57)] ∧ f' = (mx [57] f f1) ∧ g = g' ∧ (f1 57 0 = s) ∧ (f1 57 1 = i) ∧ (f1 57 2 = fcC (f (fv 15 5) 0) (fct (aC f) (f 7) (f (fv 1 15) 0) (f 65) (f (fv 64 1) 0) i) 2) ∧ (f1 57 3 = fcC (f (fv 15 5) 0) (fct (aC f) (f 7) (f (fv 1 15) 0) (f 65) (f (fv 64 1) 0) i) 3) ∧ (x = b1 (vwl s)) ∧ (lf = (if 0 < i then f 65 (i - 1) else 29)) ∧ (who = f 7 s) ∧ (n : Int) = 1) ∨ (j = 77 ∧ ∃ (lf : Int) (who : Int) (x : Int) (f1 : iF), lv = [some (iR 54), some (iR 64), some (iI i), some (iI s), some (iR 15), some (iI lf), some (iI who)] ∧ st = [(iI x), (iI 5), (iR 57)] ∧ f' = (mx [57] f f1) ∧ g = g' ∧ (f1 57 0 = s) ∧ (f1 57 1 = i) ∧ (f1 57 2 = fcC (f (fv 15 5) 0) (fct (aC f) (f 7) (f (fv 1 15) 0) (f 65) (f (fv 64 1) 0) i) 2) ∧ (f1 57 3 = fcC (f (fv 15 5) 0) (fct (aC f) (f 7) (f (fv 1 15) 0) (f 65) (f (fv 64 1) 0) i) 3) ∧ (f1 57 4 = b1 (vwl s)) ∧ (x = (if f 7 s = -1 then 9 else f 7 s)) ∧ (lf = (if 0 < i then f 65 (i - 1) else 29)) ∧ (who = f 7 s) ∧ (n : Int) = 1) ∨ (j = 90 ∧ ∃ (lf : Int) (who : Int) (x : Int) (f1 : iF), lv = [some (iR 54), some (iR 64), some (iI i), some (iI s), some (iR 15), some (iI lf), some (iI who)] ∧ st = [(iI x), (iI 6), (iR 57)] ∧ f' = (mx [57] f f1) ∧ g = g' ∧ (f1 57 0 = s) ∧ (f1 57 1 = i) ∧ (f1 57 2 = fcC (f (fv 15 5) 0) (fct (aC f) (f 7) (f (fv 1 15) 0) (f 65) (f (fv 64 1) 0) i) 2) ∧ (f1 57 3 = fcC (f (fv 15 5) 0) (fct (aC f) (f 7) (f (fv 1 15) 0) (f 65) (f (fv 64 1) 0) i) 3) ∧ (f1 57 4 = b1 (vwl s)) ∧ (f1 57 5 = (if f 7 s = -1 then 9 else f 7 s)) ∧ (x = fcC (f (fv 15 5) 0) (fct (aC f) (f 7) (f (fv 1 15) 0) (f 65) (f (fv 64 1) 0) i) 6) ∧ (lf = (if 0 < i then f 65 (i - 1) else 29)) ∧ (who = f 7 s) ∧ (n : Int) = 1) ∨ (j = 107 ∧ ∃ (lf : Int) (who : Int) (x : Int) (f1 : iF), lv = [some (iR 54), some (iR 64), some (iI i), some (iI s), some (iR 15), some (iI lf), some (iI who)] ∧ st = [(iI x), (iI 7), (iR 57)] ∧ f' = (mx [57] f f1) ∧ g = g' ∧ (f1 57 0 = s) ∧ (f1 57 1 = i) ∧ (f1 57 2 = fcC (f (fv 15 5) 0) (fct (aC f) (f 7) (f (fv 1 15) 0) (f 65) (f (fv 64 1) 0) i) 2) ∧ (f1 57 3 = fcC (f (fv 15 5) 0) (fct (aC f) (f 7) (f (fv 1 15) 0) (f 65) (f (fv 64 1) 0) i) 3) ∧ (f1 57 4 = b1 (vwl s)) ∧ (f1 57 5 = (if f 7 s = -1 then 9 else f 7 s)) ∧ (f1 57 6 = fcC (f (fv 15 5) 0) (fct (aC f) (f 7) (f (fv 1 15) 0) (f 65) (f (fv 64 1) 0) i) 6) ∧ (x = fcC (f (fv 15 5) 0) (fct (aC f) (f 7) (f (fv 1 15) 0) (f 65) (f (fv 64 1) 0) i) 7) ∧ (lf = (if 0 < i then f 65 (i - 1) else 29)) ∧ (who = f 7 s) ∧ (n : Int) = 1)) 1 (by omega) rfl rfl (fun n j lv st f' g' hn hI O J hO hF hB => ?_) (fun hvs hin O J hO hF => ?_)
  · rcases hI with hI | hI | hI | hI | hI | hI | hI
    · obtain ⟨rfl, lf, rfl, rfl, rfl, rfl, hlf, hm⟩ := hI
      have hrw1 := hrw.1
      have hcs := hcb.2 s (by omega) (by omega)
      refine ⟨show 0 ≤ (s : Int) ∧ s < 29 from by omega, ?_⟩
      refine ⟨show 0 ≤ (0 : Int) ∧ 0 < 9 from by decide, ?_⟩
      refine ⟨show 0 ≤ (1 : Int) ∧ 1 < 9 from by decide, ?_⟩
      refine hO (k_asks (by omega) (fun (hh_1 : bit (f (fv 15 5) 0) 2 = true) => ?_) (fun (hh_2 : bit (f (fv 15 5) 0) 2 = false) => ?_))
      · refine ⟨fun h => absurd (show (1 : Int) = 0 from h) (by decide), fun _ => ?_⟩
        refine ⟨show 0 ≤ (i : Int) ∧ i < 60 from by omega, ?_⟩
        refine hF (1 : Int).toNat ?_ (Or.inr (Or.inl ⟨rfl, lf, f 7 s, f 56 i, (wv (wv f 57 0 s) 57 1 i), rfl, rfl, (mx_wv rfl (mx_wv rfl mx_rf)), rfl, ?_, ?_, ?_, ?_, ?_, ?_⟩))
        · omega
        · first | exact zf0 | exact hx | rfl
        · first | exact zf1 | exact hx | rfl
        · first | (rw [fcC_t ‹bit _ 2 = true›, hlg ‹bit _ 2 = true›]; rfl) | rw [fcC_f (by decide) ‹bit _ 2 = false›]
        · exact hlf
        · first | exact hwho | rfl
        · omega
      · refine ⟨fun _ => ?_, fun h => absurd (show (0 : Int) = 0 from by decide) h⟩
        refine hF (1 : Int).toNat ?_ (Or.inr (Or.inl ⟨rfl, lf, f 7 s, 0, (wv (wv f 57 0 s) 57 1 i), rfl, rfl, (mx_wv rfl (mx_wv rfl mx_rf)), rfl, ?_, ?_, ?_, ?_, ?_, ?_⟩))
        · omega
        · first | exact zf0 | exact hx | rfl
        · first | exact zf1 | exact hx | rfl
        · first | (rw [fcC_t ‹bit _ 2 = true›, hlg ‹bit _ 2 = true›]; rfl) | rw [fcC_f (by decide) ‹bit _ 2 = false›]
        · exact hlf
        · first | exact hwho | rfl
        · omega
    · obtain ⟨rfl, lf, who, x, f1, rfl, rfl, rfl, rfl, zf0, zf1, hx, hlf, hwho, hm⟩ := hI
      have hrw1 := hrw.1
      refine ⟨show 0 ≤ (2 : Int) ∧ 2 < 9 from by decide, ?_⟩
      refine hO (k_asks (by omega) (fun (hh_3 : bit (f (fv 15 5) 0) 3 = true) => ?_) (fun (hh_4 : bit (f (fv 15 5) 0) 3 = false) => ?_))
      · refine ⟨fun h => absurd (show (1 : Int) = 0 from h) (by decide), fun _ => ?_⟩
        refine hO (k_ahead_rm (by omega) (show 0 ≤ i ∧ i < 12 from by omega) ?_)
        refine hF (1 : Int).toNat ?_ (Or.inr (Or.inr (Or.inl ⟨rfl, lf, who, cI (fun k => decide ((f 65 k) = s)) i, (wv f1 57 2 x), rfl, rfl, (mx_wv rfl rfl), rfl, ?_, ?_, ?_, ?_, ?_, ?_, ?_⟩)))
        · omega
        · first | exact zf0 | exact hx | rfl
        · first | exact zf1 | exact hx | rfl
        · first | exact zf2 | exact hx | rfl
        · first | (rw [fcC_t ‹bit _ 3 = true›, hsg]; rfl) | rw [fcC_f (by decide) ‹bit _ 3 = false›]
        · exact hlf
        · first | exact hwho | rfl
        · omega
      · refine ⟨fun _ => ?_, fun h => absurd (show (0 : Int) = 0 from by decide) h⟩
        refine hF (1 : Int).toNat ?_ (Or.inr (Or.inr (Or.inl ⟨rfl, lf, who, 0, (wv f1 57 2 x), rfl, rfl, (mx_wv rfl rfl), rfl, ?_, ?_, ?_, ?_, ?_, ?_, ?_⟩)))
        · omega
        · first | exact zf0 | exact hx | rfl
        · first | exact zf1 | exact hx | rfl
        · first | exact zf2 | exact hx | rfl
        · first | (rw [fcC_t ‹bit _ 3 = true›, hsg]; rfl) | rw [fcC_f (by decide) ‹bit _ 3 = false›]
        · exact hlf
        · first | exact hwho | rfl
        · omega
    · obtain ⟨rfl, lf, who, x, f1, rfl, rfl, rfl, rfl, zf0, zf1, zf2, hx, hlf, hwho, hm⟩ := hI
      have hrw1 := hrw.1
      refine ⟨show 0 ≤ (3 : Int) ∧ 3 < 9 from by decide, ?_⟩
      refine hO (k_isVowel (by omega) (fun (hh_5 : (s = 0 ∨ s = 4 ∨ s = 8 ∨ s = 14 ∨ s = 20)) => ?_) (fun (hh_6 : ¬ ((s = 0 ∨ s = 4 ∨ s = 8 ∨ s = 14 ∨ s = 20))) => ?_))
      · refine ⟨fun h => absurd (show (1 : Int) = 0 from h) (by decide), fun _ => ?_⟩
        refine hF (1 : Int).toNat ?_ (Or.inr (Or.inr (Or.inr (Or.inl ⟨rfl, lf, who, 1, (wv f1 57 3 x), rfl, rfl, (mx_wv rfl rfl), rfl, ?_, ?_, ?_, ?_, ?_, ?_, ?_, ?_⟩))))
        · omega
        · first | exact zf0 | exact hx | rfl
        · first | exact zf1 | exact hx | rfl
        · first | exact zf2 | exact hx | rfl
        · first | exact zf3 | exact hx | rfl
        · first | (rw [vwl_t (by assumption)]; rfl) | (rw [vwl_f (by assumption)]; rfl)
        · exact hlf
        · first | exact hwho | rfl
        · omega
      · refine ⟨fun _ => ?_, fun h => absurd (show (0 : Int) = 0 from by decide) h⟩
        refine hF (1 : Int).toNat ?_ (Or.inr (Or.inr (Or.inr (Or.inl ⟨rfl, lf, who, 0, (wv f1 57 3 x), rfl, rfl, (mx_wv rfl rfl), rfl, ?_, ?_, ?_, ?_, ?_, ?_, ?_, ?_⟩))))
        · omega
        · first | exact zf0 | exact hx | rfl
        · first | exact zf1 | exact hx | rfl
        · first | exact zf2 | exact hx | rfl
        · first | exact zf3 | exact hx | rfl
        · first | (rw [vwl_t (by assumption)]; rfl) | (rw [vwl_f (by assumption)]; rfl)
        · exact hlf
        · first | exact hwho | rfl
        · omega
    · obtain ⟨rfl, lf, who, x, f1, rfl, rfl, rfl, rfl, zf0, zf1, zf2, zf3, hx, hlf, hwho, hm⟩ := hI
      have hrw1 := hrw.1
      refine ⟨show 0 ≤ (4 : Int) ∧ 4 < 9 from by decide, ?_⟩
      refine ⟨fun (hh_7 : who = (-1)) => ?_, fun (hh_7 : ¬ who = (-1)) => ?_⟩
      · refine hF (1 : Int).toNat ?_ (Or.inr (Or.inr (Or.inr (Or.inr (Or.inl ⟨rfl, lf, who, 9, (wv f1 57 4 x), rfl, rfl, (mx_wv rfl rfl), rfl, ?_, ?_, ?_, ?_, ?_, ?_, ?_, ?_, ?_⟩)))))
        · omega
        · first | exact zf0 | exact hx | rfl
        · first | exact zf1 | exact hx | rfl
        · first | exact zf2 | exact hx | rfl
        · first | exact zf3 | exact hx | rfl
        · first | exact zf4 | exact hx | rfl
        · first | rw [if_pos (by omega)] | (rw [if_neg (by omega)]; exact hwho)
        · exact hlf
        · first | exact hwho | rfl
        · omega
      · refine hF (1 : Int).toNat ?_ (Or.inr (Or.inr (Or.inr (Or.inr (Or.inl ⟨rfl, lf, who, who, (wv f1 57 4 x), rfl, rfl, (mx_wv rfl rfl), rfl, ?_, ?_, ?_, ?_, ?_, ?_, ?_, ?_, ?_⟩)))))
        · omega
        · first | exact zf0 | exact hx | rfl
        · first | exact zf1 | exact hx | rfl
        · first | exact zf2 | exact hx | rfl
        · first | exact zf3 | exact hx | rfl
        · first | exact zf4 | exact hx | rfl
        · first | rw [if_pos (by omega)] | (rw [if_neg (by omega)]; exact hwho)
        · exact hlf
        · first | exact hwho | rfl
        · omega
    · obtain ⟨rfl, lf, who, x, f1, rfl, rfl, rfl, rfl, zf0, zf1, zf2, zf3, zf4, hx, hlf, hwho, hm⟩ := hI
      have hrw1 := hrw.1
      refine ⟨show 0 ≤ (5 : Int) ∧ 5 < 9 from by decide, ?_⟩
      refine hO (k_asks (by omega) (fun (hh_8 : bit (f (fv 15 5) 0) 6 = true) => ?_) (fun (hh_9 : bit (f (fv 15 5) 0) 6 = false) => ?_))
      · refine ⟨fun h => absurd (show (1 : Int) = 0 from h) (by decide), fun _ => ?_⟩
        refine hF (1 : Int).toNat ?_ (Or.inr (Or.inr (Or.inr (Or.inr (Or.inr (Or.inl ⟨rfl, lf, who, f (fv 1 15) 0, (wv f1 57 5 x), rfl, rfl, (mx_wv rfl rfl), rfl, ?_, ?_, ?_, ?_, ?_, ?_, ?_, ?_, ?_, ?_⟩))))))
        · omega
        · first | exact zf0 | exact hx | rfl
        · first | exact zf1 | exact hx | rfl
        · first | exact zf2 | exact hx | rfl
        · first | exact zf3 | exact hx | rfl
        · first | exact zf4 | exact hx | rfl
        · first | exact zf5 | exact hx | rfl
        · first | (rw [fcC_t ‹bit _ 6 = true›]; rfl) | rw [fcC_f (by decide) ‹bit _ 6 = false›]
        · exact hlf
        · first | exact hwho | rfl
        · omega
      · refine ⟨fun _ => ?_, fun h => absurd (show (0 : Int) = 0 from by decide) h⟩
        refine hF (1 : Int).toNat ?_ (Or.inr (Or.inr (Or.inr (Or.inr (Or.inr (Or.inl ⟨rfl, lf, who, 0, (wv f1 57 5 x), rfl, rfl, (mx_wv rfl rfl), rfl, ?_, ?_, ?_, ?_, ?_, ?_, ?_, ?_, ?_, ?_⟩))))))
        · omega
        · first | exact zf0 | exact hx | rfl
        · first | exact zf1 | exact hx | rfl
        · first | exact zf2 | exact hx | rfl
        · first | exact zf3 | exact hx | rfl
        · first | exact zf4 | exact hx | rfl
        · first | exact zf5 | exact hx | rfl
        · first | (rw [fcC_t ‹bit _ 6 = true›]; rfl) | rw [fcC_f (by decide) ‹bit _ 6 = false›]
        · exact hlf
        · first | exact hwho | rfl
        · omega
    · obtain ⟨rfl, lf, who, x, f1, rfl, rfl, rfl, rfl, zf0, zf1, zf2, zf3, zf4, zf5, hx, hlf, hwho, hm⟩ := hI
      have hrw1 := hrw.1
      refine ⟨show 0 ≤ (6 : Int) ∧ 6 < 9 from by decide, ?_⟩
      refine hO (k_asks (by omega) (fun (hh_10 : bit (f (fv 15 5) 0) 7 = true) => ?_) (fun (hh_11 : bit (f (fv 15 5) 0) 7 = false) => ?_))
      · refine ⟨fun h => absurd (show (1 : Int) = 0 from h) (by decide), fun _ => ?_⟩
        refine hO (k_isAble (by omega) (show (abOK f) from hab) (fun (hh_12 : (aC f) lf = true) => ?_) (fun (hh_13 : (aC f) lf = false) => ?_))
        · refine ⟨fun h => absurd (show (1 : Int) = 0 from h) (by decide), fun _ => ?_⟩
          refine hF (1 : Int).toNat ?_ (Or.inr (Or.inr (Or.inr (Or.inr (Or.inr (Or.inr (⟨rfl, lf, who, lf, (wv f1 57 6 x), rfl, rfl, (mx_wv rfl rfl), rfl, ?_, ?_, ?_, ?_, ?_, ?_, ?_, ?_, ?_, ?_, ?_⟩)))))))
          · omega
          · first | exact zf0 | exact hx | rfl
          · first | exact zf1 | exact hx | rfl
          · first | exact zf2 | exact hx | rfl
          · first | exact zf3 | exact hx | rfl
          · first | exact zf4 | exact hx | rfl
          · first | exact zf5 | exact hx | rfl
          · first | exact zf6 | exact hx | rfl
          · first | (rw [fcC_t ‹bit _ 7 = true›]; show _ = lfI (aC f) (f 65) i; exact lf_ok hlf ‹_›) | (rw [fcC_t ‹bit _ 7 = true›]; show _ = lfI (aC f) (f 65) i; exact lf_no hlf ‹_›) | rw [fcC_f (by decide) ‹bit _ 7 = false›]
          · exact hlf
          · first | exact hwho | rfl
          · omega
        · refine ⟨fun _ => ?_, fun h => absurd (show (0 : Int) = 0 from by decide) h⟩
          refine hF (1 : Int).toNat ?_ (Or.inr (Or.inr (Or.inr (Or.inr (Or.inr (Or.inr (⟨rfl, lf, who, 29, (wv f1 57 6 x), rfl, rfl, (mx_wv rfl rfl), rfl, ?_, ?_, ?_, ?_, ?_, ?_, ?_, ?_, ?_, ?_, ?_⟩)))))))
          · omega
          · first | exact zf0 | exact hx | rfl
          · first | exact zf1 | exact hx | rfl
          · first | exact zf2 | exact hx | rfl
          · first | exact zf3 | exact hx | rfl
          · first | exact zf4 | exact hx | rfl
          · first | exact zf5 | exact hx | rfl
          · first | exact zf6 | exact hx | rfl
          · first | (rw [fcC_t ‹bit _ 7 = true›]; show _ = lfI (aC f) (f 65) i; exact lf_ok hlf ‹_›) | (rw [fcC_t ‹bit _ 7 = true›]; show _ = lfI (aC f) (f 65) i; exact lf_no hlf ‹_›) | rw [fcC_f (by decide) ‹bit _ 7 = false›]
          · exact hlf
          · first | exact hwho | rfl
          · omega
      · refine ⟨fun _ => ?_, fun h => absurd (show (0 : Int) = 0 from by decide) h⟩
        refine hF (1 : Int).toNat ?_ (Or.inr (Or.inr (Or.inr (Or.inr (Or.inr (Or.inr (⟨rfl, lf, who, 0, (wv f1 57 6 x), rfl, rfl, (mx_wv rfl rfl), rfl, ?_, ?_, ?_, ?_, ?_, ?_, ?_, ?_, ?_, ?_, ?_⟩)))))))
        · omega
        · first | exact zf0 | exact hx | rfl
        · first | exact zf1 | exact hx | rfl
        · first | exact zf2 | exact hx | rfl
        · first | exact zf3 | exact hx | rfl
        · first | exact zf4 | exact hx | rfl
        · first | exact zf5 | exact hx | rfl
        · first | exact zf6 | exact hx | rfl
        · first | (rw [fcC_t ‹bit _ 7 = true›]; show _ = lfI (aC f) (f 65) i; exact lf_ok hlf ‹_›) | (rw [fcC_t ‹bit _ 7 = true›]; show _ = lfI (aC f) (f 65) i; exact lf_no hlf ‹_›) | rw [fcC_f (by decide) ‹bit _ 7 = false›]
        · exact hlf
        · first | exact hwho | rfl
        · omega
    · obtain ⟨rfl, lf, who, x, f1, rfl, rfl, rfl, rfl, zf0, zf1, zf2, zf3, zf4, zf5, zf6, hx, hlf, hwho, hm⟩ := hI
      have hrw1 := hrw.1
      refine ⟨show 0 ≤ (7 : Int) ∧ 7 < 9 from by decide, ?_⟩
      refine hO (k_isLetter (by omega) (fun (hh_14 : 0 ≤ s) (hh_15 : s < 26) => ?_) (fun (hh_16 : ¬ (0 ≤ s ∧ s < 26)) => ?_))
      · refine ⟨fun h => absurd (show (1 : Int) = 0 from h) (by decide), fun _ => ?_⟩
        refine hO (k_isLetter (by omega) (fun (hh_17 : 0 ≤ lf) (hh_18 : lf < 26) => ?_) (fun (hh_19 : ¬ (0 ≤ lf ∧ lf < 26)) => ?_))
        · refine ⟨fun h => absurd (show (1 : Int) = 0 from h) (by decide), fun _ => ?_⟩
          refine ⟨show 0 ≤ (8 : Int) ∧ 8 < 9 from by decide, ?_⟩
          by_cases hi0 : 0 < i
          · rw [if_pos hi0] at hlf
            have hril := hrw.2 (i - 1) (by omega) (by omega)
            have hx8 : (0 : Int) = fsI (f 65) (f (fv 64 1) 0) i := by
                    unfold fsI
                    first | (rw [isL_t.mpr (show 0 ≤ i ∧ i < (f (fv 64 1) 0) ∧ f 65 i < 26 by omega), isL_f.mpr (show ¬ (0 ≤ i - 1 ∧ i - 1 < (f (fv 64 1) 0) ∧ f 65 (i - 1) < 26) by omega)]; rfl) | (rw [isL_f.mpr (show ¬ (0 ≤ i ∧ i < (f (fv 64 1) 0) ∧ f 65 i < 26) by omega)]; rfl) | (rw [isL_t.mpr (show 0 ≤ i ∧ i < (f (fv 64 1) 0) ∧ f 65 i < 26 by omega), isL_t.mpr (show 0 ≤ i - 1 ∧ i - 1 < (f (fv 64 1) 0) ∧ f 65 (i - 1) < 26 by omega)]; rfl)
            rw [show (wv (wv (mx [57] f f1) 57 7 x) 57 8 0) = mx [57] f (wv (wv f1 57 7 x) 57 8 0) from (mx_wv rfl (mx_wv rfl rfl))]
            exact k0 (wv (wv f1 57 7 x) 57 8 0) (fun k h0 h1 => by
                    have h : k = 0 ∨ k = 1 ∨ k = 2 ∨ k = 3 ∨ k = 4 ∨ k = 5 ∨ k = 6 ∨ k = 7 ∨ k = 8 := by omega
                    rcases h with h | h | h | h | h | h | h | h | h <;> subst h
                    · exact zf0.trans hsg
                    · exact zf1
                    · exact zf2
                    · exact zf3
                    · rw [show ((wv (wv f1 57 7 x) 57 8 0) 57 4 : Int) = b1 (vwl (f 65 i)) from zf4.trans (by rw [hsg])]; rfl
                    · rw [show ((wv (wv f1 57 7 x) 57 8 0) 57 5 : Int) = (if f 7 (f 65 i) = -1 then 9 else f 7 (f 65 i)) from zf5.trans (by rw [hsg])]; rfl
                    · exact zf6
                    · exact hx
                    · exact hx8)
          · rw [if_neg hi0] at hlf
            have hx8 : (0 : Int) = fsI (f 65) (f (fv 64 1) 0) i := by
                    unfold fsI
                    first | (rw [isL_t.mpr (show 0 ≤ i ∧ i < (f (fv 64 1) 0) ∧ f 65 i < 26 by omega), isL_f.mpr (show ¬ (0 ≤ i - 1 ∧ i - 1 < (f (fv 64 1) 0) ∧ f 65 (i - 1) < 26) by omega)]; rfl) | (rw [isL_f.mpr (show ¬ (0 ≤ i ∧ i < (f (fv 64 1) 0) ∧ f 65 i < 26) by omega)]; rfl) | (rw [isL_t.mpr (show 0 ≤ i ∧ i < (f (fv 64 1) 0) ∧ f 65 i < 26 by omega), isL_t.mpr (show 0 ≤ i - 1 ∧ i - 1 < (f (fv 64 1) 0) ∧ f 65 (i - 1) < 26 by omega)]; rfl)
            rw [show (wv (wv (mx [57] f f1) 57 7 x) 57 8 0) = mx [57] f (wv (wv f1 57 7 x) 57 8 0) from (mx_wv rfl (mx_wv rfl rfl))]
            exact k0 (wv (wv f1 57 7 x) 57 8 0) (fun k h0 h1 => by
                    have h : k = 0 ∨ k = 1 ∨ k = 2 ∨ k = 3 ∨ k = 4 ∨ k = 5 ∨ k = 6 ∨ k = 7 ∨ k = 8 := by omega
                    rcases h with h | h | h | h | h | h | h | h | h <;> subst h
                    · exact zf0.trans hsg
                    · exact zf1
                    · exact zf2
                    · exact zf3
                    · rw [show ((wv (wv f1 57 7 x) 57 8 0) 57 4 : Int) = b1 (vwl (f 65 i)) from zf4.trans (by rw [hsg])]; rfl
                    · rw [show ((wv (wv f1 57 7 x) 57 8 0) 57 5 : Int) = (if f 7 (f 65 i) = -1 then 9 else f 7 (f 65 i)) from zf5.trans (by rw [hsg])]; rfl
                    · exact zf6
                    · exact hx
                    · exact hx8)
        · refine ⟨fun _ => ?_, fun h => absurd (show (0 : Int) = 0 from by decide) h⟩
          refine ⟨show 0 ≤ (8 : Int) ∧ 8 < 9 from by decide, ?_⟩
          by_cases hi0 : 0 < i
          · rw [if_pos hi0] at hlf
            have hril := hrw.2 (i - 1) (by omega) (by omega)
            have hx8 : (1 : Int) = fsI (f 65) (f (fv 64 1) 0) i := by
                    unfold fsI
                    first | (rw [isL_t.mpr (show 0 ≤ i ∧ i < (f (fv 64 1) 0) ∧ f 65 i < 26 by omega), isL_f.mpr (show ¬ (0 ≤ i - 1 ∧ i - 1 < (f (fv 64 1) 0) ∧ f 65 (i - 1) < 26) by omega)]; rfl) | (rw [isL_f.mpr (show ¬ (0 ≤ i ∧ i < (f (fv 64 1) 0) ∧ f 65 i < 26) by omega)]; rfl) | (rw [isL_t.mpr (show 0 ≤ i ∧ i < (f (fv 64 1) 0) ∧ f 65 i < 26 by omega), isL_t.mpr (show 0 ≤ i - 1 ∧ i - 1 < (f (fv 64 1) 0) ∧ f 65 (i - 1) < 26 by omega)]; rfl)
            rw [show (wv (wv (mx [57] f f1) 57 7 x) 57 8 1) = mx [57] f (wv (wv f1 57 7 x) 57 8 1) from (mx_wv rfl (mx_wv rfl rfl))]
            exact k0 (wv (wv f1 57 7 x) 57 8 1) (fun k h0 h1 => by
                    have h : k = 0 ∨ k = 1 ∨ k = 2 ∨ k = 3 ∨ k = 4 ∨ k = 5 ∨ k = 6 ∨ k = 7 ∨ k = 8 := by omega
                    rcases h with h | h | h | h | h | h | h | h | h <;> subst h
                    · exact zf0.trans hsg
                    · exact zf1
                    · exact zf2
                    · exact zf3
                    · rw [show ((wv (wv f1 57 7 x) 57 8 1) 57 4 : Int) = b1 (vwl (f 65 i)) from zf4.trans (by rw [hsg])]; rfl
                    · rw [show ((wv (wv f1 57 7 x) 57 8 1) 57 5 : Int) = (if f 7 (f 65 i) = -1 then 9 else f 7 (f 65 i)) from zf5.trans (by rw [hsg])]; rfl
                    · exact zf6
                    · exact hx
                    · exact hx8)
          · rw [if_neg hi0] at hlf
            have hx8 : (1 : Int) = fsI (f 65) (f (fv 64 1) 0) i := by
                    unfold fsI
                    first | (rw [isL_t.mpr (show 0 ≤ i ∧ i < (f (fv 64 1) 0) ∧ f 65 i < 26 by omega), isL_f.mpr (show ¬ (0 ≤ i - 1 ∧ i - 1 < (f (fv 64 1) 0) ∧ f 65 (i - 1) < 26) by omega)]; rfl) | (rw [isL_f.mpr (show ¬ (0 ≤ i ∧ i < (f (fv 64 1) 0) ∧ f 65 i < 26) by omega)]; rfl) | (rw [isL_t.mpr (show 0 ≤ i ∧ i < (f (fv 64 1) 0) ∧ f 65 i < 26 by omega), isL_t.mpr (show 0 ≤ i - 1 ∧ i - 1 < (f (fv 64 1) 0) ∧ f 65 (i - 1) < 26 by omega)]; rfl)
            rw [show (wv (wv (mx [57] f f1) 57 7 x) 57 8 1) = mx [57] f (wv (wv f1 57 7 x) 57 8 1) from (mx_wv rfl (mx_wv rfl rfl))]
            exact k0 (wv (wv f1 57 7 x) 57 8 1) (fun k h0 h1 => by
                    have h : k = 0 ∨ k = 1 ∨ k = 2 ∨ k = 3 ∨ k = 4 ∨ k = 5 ∨ k = 6 ∨ k = 7 ∨ k = 8 := by omega
                    rcases h with h | h | h | h | h | h | h | h | h <;> subst h
                    · exact zf0.trans hsg
                    · exact zf1
                    · exact zf2
                    · exact zf3
                    · rw [show ((wv (wv f1 57 7 x) 57 8 1) 57 4 : Int) = b1 (vwl (f 65 i)) from zf4.trans (by rw [hsg])]; rfl
                    · rw [show ((wv (wv f1 57 7 x) 57 8 1) 57 5 : Int) = (if f 7 (f 65 i) = -1 then 9 else f 7 (f 65 i)) from zf5.trans (by rw [hsg])]; rfl
                    · exact zf6
                    · exact hx
                    · exact hx8)
      · refine ⟨fun _ => ?_, fun h => absurd (show (0 : Int) = 0 from by decide) h⟩
        refine ⟨show 0 ≤ (8 : Int) ∧ 8 < 9 from by decide, ?_⟩
        by_cases hi0 : 0 < i
        · rw [if_pos hi0] at hlf
          have hril := hrw.2 (i - 1) (by omega) (by omega)
          have hx8 : (0 : Int) = fsI (f 65) (f (fv 64 1) 0) i := by
                  unfold fsI
                  first | (rw [isL_t.mpr (show 0 ≤ i ∧ i < (f (fv 64 1) 0) ∧ f 65 i < 26 by omega), isL_f.mpr (show ¬ (0 ≤ i - 1 ∧ i - 1 < (f (fv 64 1) 0) ∧ f 65 (i - 1) < 26) by omega)]; rfl) | (rw [isL_f.mpr (show ¬ (0 ≤ i ∧ i < (f (fv 64 1) 0) ∧ f 65 i < 26) by omega)]; rfl) | (rw [isL_t.mpr (show 0 ≤ i ∧ i < (f (fv 64 1) 0) ∧ f 65 i < 26 by omega), isL_t.mpr (show 0 ≤ i - 1 ∧ i - 1 < (f (fv 64 1) 0) ∧ f 65 (i - 1) < 26 by omega)]; rfl)
          rw [show (wv (wv (mx [57] f f1) 57 7 x) 57 8 0) = mx [57] f (wv (wv f1 57 7 x) 57 8 0) from (mx_wv rfl (mx_wv rfl rfl))]
          exact k0 (wv (wv f1 57 7 x) 57 8 0) (fun k h0 h1 => by
                  have h : k = 0 ∨ k = 1 ∨ k = 2 ∨ k = 3 ∨ k = 4 ∨ k = 5 ∨ k = 6 ∨ k = 7 ∨ k = 8 := by omega
                  rcases h with h | h | h | h | h | h | h | h | h <;> subst h
                  · exact zf0.trans hsg
                  · exact zf1
                  · exact zf2
                  · exact zf3
                  · rw [show ((wv (wv f1 57 7 x) 57 8 0) 57 4 : Int) = b1 (vwl (f 65 i)) from zf4.trans (by rw [hsg])]; rfl
                  · rw [show ((wv (wv f1 57 7 x) 57 8 0) 57 5 : Int) = (if f 7 (f 65 i) = -1 then 9 else f 7 (f 65 i)) from zf5.trans (by rw [hsg])]; rfl
                  · exact zf6
                  · exact hx
                  · exact hx8)
        · rw [if_neg hi0] at hlf
          have hx8 : (0 : Int) = fsI (f 65) (f (fv 64 1) 0) i := by
                  unfold fsI
                  first | (rw [isL_t.mpr (show 0 ≤ i ∧ i < (f (fv 64 1) 0) ∧ f 65 i < 26 by omega), isL_f.mpr (show ¬ (0 ≤ i - 1 ∧ i - 1 < (f (fv 64 1) 0) ∧ f 65 (i - 1) < 26) by omega)]; rfl) | (rw [isL_f.mpr (show ¬ (0 ≤ i ∧ i < (f (fv 64 1) 0) ∧ f 65 i < 26) by omega)]; rfl) | (rw [isL_t.mpr (show 0 ≤ i ∧ i < (f (fv 64 1) 0) ∧ f 65 i < 26 by omega), isL_t.mpr (show 0 ≤ i - 1 ∧ i - 1 < (f (fv 64 1) 0) ∧ f 65 (i - 1) < 26 by omega)]; rfl)
          rw [show (wv (wv (mx [57] f f1) 57 7 x) 57 8 0) = mx [57] f (wv (wv f1 57 7 x) 57 8 0) from (mx_wv rfl (mx_wv rfl rfl))]
          exact k0 (wv (wv f1 57 7 x) 57 8 0) (fun k h0 h1 => by
                  have h : k = 0 ∨ k = 1 ∨ k = 2 ∨ k = 3 ∨ k = 4 ∨ k = 5 ∨ k = 6 ∨ k = 7 ∨ k = 8 := by omega
                  rcases h with h | h | h | h | h | h | h | h | h <;> subst h
                  · exact zf0.trans hsg
                  · exact zf1
                  · exact zf2
                  · exact zf3
                  · rw [show ((wv (wv f1 57 7 x) 57 8 0) 57 4 : Int) = b1 (vwl (f 65 i)) from zf4.trans (by rw [hsg])]; rfl
                  · rw [show ((wv (wv f1 57 7 x) 57 8 0) 57 5 : Int) = (if f 7 (f 65 i) = -1 then 9 else f 7 (f 65 i)) from zf5.trans (by rw [hsg])]; rfl
                  · exact zf6
                  · exact hx
                  · exact hx8)
  · have hrw1 := hrw.1
    have hri := hrw.2 i (by omega) (by omega)
    have hcs := hcb.2 s (by omega) (by omega)
    have hcb1 := hcb.1
    refine ⟨fun (hh_20 : 0 < i) => ?_, fun (hh_20 : ¬ 0 < i) => ?_⟩
    · refine Or.inl ⟨show inr (i - 1) from by constructor <;> omega, ?_⟩
      refine hO (k_get_rm (by omega) (show 0 ≤ (i - 1) ∧ (i - 1) < 12 from by omega) ?_)
      refine hF (1 : Int).toNat ?_ (Or.inl ⟨rfl, (f 65 (i - 1)), rfl, rfl, rfl, rfl, ?_, ?_⟩)
      · omega
      · first | rw [if_pos (by omega)] | rw [if_neg (by omega)]
      · omega
    · refine hF (1 : Int).toNat ?_ (Or.inl ⟨rfl, 29, rfl, rfl, rfl, rfl, ?_, ?_⟩)
      · omega
      · first | rw [if_pos (by omega)] | rw [if_neg (by omega)]
      · omega
set_option maxRecDepth 100000 in
set_option maxHeartbeats 4000000 in
theorem k_payAt_rm {i : Int} (hd : 3 ≤ d) (hi : 0 ≤ i ∧ i < (f (fv 64 1) 0)) (hrw : rowB (f (fv 64 1) 0) 12 (f 65)) (hsn : (f 65 i) < 29) (hlg : bit (f (fv 15 5) 0) 2 = true → (f 56 i) = lgI (aC f) (f 65) (f (fv 64 1) 0) i) (hcb : (coB f)) (hab : (abOK f)) (hl : (lC f)) (hA : lwask (f (fv 15 5) 0) (lwC f)) (hday : 0 ≤ (f (fv 1 15) 0) ∧ (f (fv 1 15) 0) ≤ 9999) (hmo : mOK (lwC f) g) (k0 : ∀ f1 : iF, ∀ g1 : iG, (mOK (lwC f) g1) → Q (some (iI (pyI (aC f) (f 7) (f (fv 1 15) 0) (lwC f) (f 65) (f (fv 64 1) 0) i))) (mx [57, 58] f f1) g1) : wq d 144 [iR 54, iR 64, iI i] f g Q := by
  obtain ⟨d, rfl⟩ : ∃ e, d = e + 1 := ⟨d - 1, by omega⟩
  refine i_meth0 rfl rfl (fun O J hO => ?_)
  have hrw1 := hrw.1
  have hri := hrw.2 i (by omega) (by omega)
  have hcs := hcb.2 (f 65 i) (by omega) (by omega)
  have hcb1 := hcb.1
  refine hO (k_get_rm (by omega) (show 0 ≤ i ∧ i < 12 from by omega) ?_)
  refine ⟨fun h => absurd (show i < 0 from h) (by omega), fun _ => ?_⟩
  refine ⟨fun _ => ?_, fun h => absurd (show i < 60 from by omega) h⟩
  refine hO (k_isSign (by omega) (fun (hh_1 : 0 ≤ (f 65 i)) (hh_2 : (f 65 i) < 29) => ?_) (fun (hh_3 : ¬ (0 ≤ (f 65 i) ∧ (f 65 i) < 29)) => ?_))
  · refine ⟨fun h => absurd (show (1 : Int) = 0 from h) (by decide), fun _ => ?_⟩
    refine ⟨fun (hh_4 : f (fv 15 4) 0 = 0) => ?_, fun (hh_4 : ¬ f (fv 15 4) 0 = 0) => ?_⟩
    · have he : pyI (aC f) (f 7) (f (fv 1 15) 0) (lwC f) (f 65) (f (fv 64 1) 0) i = 1 := by unfold pyI lwC; rw [‹f (fv 15 4) 0 = 0›]; rfl
      rw [he] at k0
      have hk := k0 f g hmo
      rw [← mx_rf] at hk
      exact hk
    · refine hO (k_facts_rm (by omega) (show 0 ≤ i ∧ i < (f (fv 64 1) 0) from hi) (show rowB (f (fv 64 1) 0) 12 (f 65) from hrw) (show (f 65 i) = (f 65 i) from rfl) (show 0 ≤ (f 65 i) ∧ (f 65 i) < 29 from by omega) (show (coB f) from hcb) (show (abOK f) from hab) (show bit (f (fv 15 5) 0) 2 = true → (f 56 i) = lgI (aC f) (f 65) (f (fv 64 1) 0) i from hlg) (fun f1_5 (hh_6 : ∀ k, 0 ≤ k → k ≤ 8 → f1_5 57 k = fcC (f (fv 15 5) 0) (fct (aC f) (f 7) (f (fv 1 15) 0) (f 65) (f (fv 64 1) 0) i) k) => ?_))
      have hF57 := hh_6
      have hpay : pyI (aC f) (f 7) (f (fv 1 15) 0) (lwC f) (f 65) (f (fv 64 1) 0) i = payM (f1_5 57) (lwC f) := by unfold pyI; rw [← payM_ask (m := (f (fv 15 5) 0)) _ hA, payM_cg (fun k a b => (hF57 k a b).symm)]
      have hfok : fok (f1_5 57) := fok_cg hF57 (fok_fct aC_in (by omega) hday (by omega) (by omega))
      have h571 : f1_5 57 1 = i := (hF57 1 (by decide) (by decide)).trans rfl
      have hfa : faok (f1_5 57) := fok_fa hfok ⟨by omega, by omega⟩
      have h577 := hfok.2.2.2.2.2.1
      refine Or.inl ⟨show inr (i * 32) from by constructor <;> omega, ?_⟩
      refine ⟨show 0 ≤ (7 : Int) ∧ 7 < 9 from by decide, ?_⟩
      refine Or.inl ⟨show inr ((f 65 i) + (f1_5 57 7)) from by constructor <;> omega, ?_⟩
      refine ⟨show ¬ (32 : Int) = 0 from by decide, show inr (((f 65 i) + (f1_5 57 7)).tmod 32) from by exact tm32 (by omega), ?_⟩
      have htm : ((f 65 i) + (f1_5 57 7)).tmod 32 = ((f 65 i) + (f1_5 57 7)) % 32 := Int.tmod_eq_emod_of_nonneg (by omega)
      refine Or.inl ⟨show inr ((i * 32) + (((f 65 i) + (f1_5 57 7)).tmod 32)) from by constructor <;> omega, ?_⟩
      refine ⟨fun h => absurd (show ((i * 32) + (((f 65 i) + (f1_5 57 7)).tmod 32)) < 0 from h) (by omega), fun _ => ?_⟩
      refine ⟨fun (hh_7 : ((i * 32) + (((f 65 i) + (f1_5 57 7)).tmod 32)) < 384) => ?_, fun (hh_7 : ¬ ((i * 32) + (((f 65 i) + (f1_5 57 7)).tmod 32)) < 384) => ?_⟩
      · refine hO (k_key (by omega) ?_)
        refine ⟨show 0 ≤ (((i * 32) + (((f 65 i) + (f1_5 57 7)).tmod 32)) : Int) ∧ ((i * 32) + (((f 65 i) + (f1_5 57 7)).tmod 32)) < 384 from by omega, ?_⟩
        refine ⟨fun (hh_8 : (lg_cmp (b_ushrL (g 59 ((i * 32) + (((f 65 i) + (f1_5 57 7)).tmod 32))) 7) (keyL (f1_5 57))).toInt = 0) => ?_, fun (hh_8 : ¬ (lg_cmp (b_ushrL (g 59 ((i * 32) + (((f 65 i) + (f1_5 57 7)).tmod 32))) 7) (keyL (f1_5 57))).toInt = 0) => ?_⟩
        · refine ⟨show 0 ≤ (((i * 32) + (((f 65 i) + (f1_5 57 7)).tmod 32)) : Int) ∧ ((i * 32) + (((f 65 i) + (f1_5 57 7)).tmod 32)) < 384 from by omega, ?_⟩
          have hm2 := mOK_hit hmo (c := ((i * 32) + (((f 65 i) + (f1_5 57 7)).tmod 32))) (by omega) (by omega) hfok (by omega) (lcmp_0.mp ‹(lg_cmp _ _).toInt = 0›)
          rw [hpay, ← hm2] at k0
          have hk := k0 (mx [57] f f1_5) g hmo
          rw [show mx [57, 58] f (mx [57] f f1_5) = (mx [57] f f1_5) from ((mx_mx rfl mx_rf)).symm] at hk
          exact hk
        · refine hO (k_payFor (by omega) (show (lC f) from hl) (show faok (f1_5 57) from hfa) (fun f1_9 => ?_))
          refine ⟨show 0 ≤ (((i * 32) + (((f 65 i) + (f1_5 57 7)).tmod 32)) : Int) ∧ ((i * 32) + (((f 65 i) + (f1_5 57 7)).tmod 32)) < 384 from by omega, ?_⟩
          refine ⟨show 0 ≤ (((i * 32) + (((f 65 i) + (f1_5 57 7)).tmod 32)) : Int) ∧ ((i * 32) + (((f 65 i) + (f1_5 57 7)).tmod 32)) < 384 from by omega, ?_⟩
          obtain ⟨hm1, hm2⟩ := mOK_put hmo (c := ((i * 32) + (((f 65 i) + (f1_5 57 7)).tmod 32))) (by omega) (by omega) hfok (by omega)
          rw [hpay, ← hm2] at k0
          have hk := k0 (mx [58] (mx [57] f f1_5) f1_9) (wg g 59 ((i * 32) + (((f 65 i) + (f1_5 57 7)).tmod 32)) ((b_shlL (keyL (f1_5 57)) 7) ||| (b_i2l (payM (f1_5 57) (lwC f))))) hm1
          rw [show mx [57, 58] f (mx [58] (mx [57] f f1_5) f1_9) = (mx [58] (mx [57] f f1_5) f1_9) from ((mx_mx rfl (mx_mx rfl mx_rf))).symm] at hk
          exact hk
      · refine hO (k_payFor (by omega) (show (lC f) from hl) (show faok (f1_5 57) from hfa) (fun f1_10 => ?_))
        rw [hpay] at k0
        have hk := k0 (mx [58] (mx [57] f f1_5) f1_10) g hmo
        rw [show mx [57, 58] f (mx [58] (mx [57] f f1_5) f1_10) = (mx [58] (mx [57] f f1_5) f1_10) from ((mx_mx rfl (mx_mx rfl mx_rf))).symm] at hk
        exact hk
  · omega
set_option maxRecDepth 100000 in
set_option maxHeartbeats 4000000 in
theorem k_facts_bk {i s : Int} (hd : 2 ≤ d) (hi : 0 ≤ i ∧ i < (f (fv 74 1) 0)) (hrw : rowB (f (fv 74 1) 0) 60 (f 75)) (hsg : s = (f 75 i)) (hs : 0 ≤ s ∧ s < 29) (hcb : (coB f)) (hab : (abOK f)) (hlg : bit (f (fv 15 5) 0) 2 = true → (f 56 i) = lgI (aC f) (f 75) (f (fv 74 1) 0) i) (k0 : ∀ f1 : iF, (∀ k, 0 ≤ k → k ≤ 8 → f1 57 k = fcC (f (fv 15 5) 0) (fct (aC f) (f 7) (f (fv 1 15) 0) (f 75) (f (fv 74 1) 0) i) k) → Q none (mx [57] f f1) g) : wq d 146 [iR 54, iR 74, iI i, iI s] f g Q := by
  obtain ⟨d, rfl⟩ : ∃ e, d = e + 1 := ⟨d - 1, by omega⟩
  refine i_meth [(13, 5), (43, 7), (57, 7), (67, 7), (77, 7), (90, 7), (107, 7)] (fun n j lv st f' g' => (j = 13 ∧ ∃ (lf : Int), lv = [some (iR 54), some (iR 74), some (iI i), some (iI s), some (iR 15)] ∧ st = [(iI lf)] ∧ f = f' ∧ g = g' ∧ (lf = (if 0 < i then f 75 (i - 1) else 29)) ∧ (n : Int) = 1) ∨ (j = 43 ∧ ∃ (lf : Int) (who : Int) (x : Int) (f1 : iF), lv = [some (iR 54), some (iR 74), some (iI i), some (iI s), some (iR 15), some (iI lf), some (iI who)] ∧ st = [(iI x), (iI 2), (iR 57)] ∧ f' = (mx [57] f f1) ∧ g = g' ∧ (f1 57 0 = s) ∧ (f1 57 1 = i) ∧ (x = fcC (f (fv 15 5) 0) (fct (aC f) (f 7) (f (fv 1 15) 0) (f 75) (f (fv 74 1) 0) i) 2) ∧ (lf = (if 0 < i then f 75 (i - 1) else 29)) ∧ (who = f 7 s) ∧ (n : Int) = 1) ∨ (j = 57 ∧ ∃ (lf : Int) (who : Int) (x : Int) (f1 : iF), lv = [some (iR 54), some (iR 74), some (iI i), some (iI s), some (iR 15), some (iI lf), some (iI who)] ∧ st = [(iI x), (iI 3), (iR 57)] ∧ f' = (mx [57] f f1) ∧ g = g' ∧ (f1 57 0 = s) ∧ (f1 57 1 = i) ∧ (f1 57 2 = fcC (f (fv 15 5) 0) (fct (aC f) (f 7) (f (fv 1 15) 0) (f 75) (f (fv 74 1) 0) i) 2) ∧ (x = fcC (f (fv 15 5) 0) (fct (aC f) (f 7) (f (fv 1 15) 0) (f 75) (f (fv 74 1) 0) i) 3) ∧ (lf = (if 0 < i then f 75 (i - 1) else 29)) ∧ (who = f 7 s) ∧ (n : Int) = 1) ∨ (j = 67 ∧ ∃ (lf : Int) (who : Int) (x : Int) (f1 : iF), lv = [some (iR 54), some (iR 74), some (iI i), some (iI s), some (iR 15), some (iI lf), some (iI who)] ∧ st = [(iI x), (iI 4), (iR 57)] ∧ f' = (mx [57] f f1) ∧ g = g' ∧ (f1 57 0 = s) ∧ (f1 57 1 = i) ∧ (f1 57 2 = fcC (f (fv 15 5) 0) (fct (aC f) (f 7) (f (fv 1 15) 0) (f 75) (f (fv 74 1) 0) i) 2) ∧ (f1 57 3 = fcC (f (fv 15 5) 0) (fct (aC f) (f 7) (f (fv 1 15) 0) (f 75) (f (fv 74 1) 0) i) 3) ∧ (x = b1 (vwl s)) ∧ (lf = (if 0 < i then f 75 (i - 1) else 29)) ∧ (who = f 7 s) ∧ (n : Int) = 1) ∨ (j = 77 ∧ ∃ (lf : Int) (who : Int) (x : Int) (f1 : iF), lv = [some (iR 54), some (iR 74), some (iI i), some (iI s), some (iR 15), some (iI lf), some (iI who)] ∧ st = [(iI x), (iI 5), (iR 57)] ∧ f' = (mx [57] f f1) ∧ g = g' ∧ (f1 57 0 = s) ∧ (f1 57 1 = i) ∧ (f1 57 2 = fcC (f (fv 15 5) 0) (fct (aC f) (f 7) (f (fv 1 15) 0) (f 75) (f (fv 74 1) 0) i) 2) ∧ (f1 57 3 = fcC (f (fv 15 5) 0) (fct (aC f) (f 7) (f (fv 1 15) 0) (f 75) (f (fv 74 1) 0) i) 3) ∧ (f1 57 4 = b1 (vwl s)) ∧ (x = (if f 7 s = -1 then 9 else f 7 s)) ∧ (lf = (if 0 < i then f 75 (i - 1) else 29)) ∧ (who = f 7 s) ∧ (n : Int) = 1) ∨ (j = 90 ∧ ∃ (lf : Int) (who : Int) (x : Int) (f1 : iF), lv = [some (iR 54), some (iR 74), some (iI i), some (iI s), some (iR 15), some (iI lf), some (iI who)] ∧ st = [(iI x), (iI 6), (iR 57)] ∧ f' = (mx [57] f f1) ∧ g = g' ∧ (f1 57 0 = s) ∧ (f1 57 1 = i) ∧ (f1 57 2 = fcC (f (fv 15 5) 0) (fct (aC f) (f 7) (f (fv 1 15) 0) (f 75) (f (fv 74 1) 0) i) 2) ∧ (f1 57 3 = fcC (f (fv 15 5) 0) (fct (aC f) (f 7) (f (fv 1 15) 0) (f 75) (f (fv 74 1) 0) i) 3) ∧ (f1 57 4 = b1 (vwl s)) ∧ (f1 57 5 = (if f 7 s = -1 then 9 else f 7 s)) ∧ (x = fcC (f (fv 15 5) 0) (fct (aC f) (f 7) (f (fv 1 15) 0) (f 75) (f (fv 74 1) 0) i) 6) ∧ (lf = (if 0 < i then f 75 (i - 1) else 29)) ∧ (who = f 7 s) ∧ (n : Int) = 1) ∨ (j = 107 ∧ ∃ (lf : Int) (who : Int) (x : Int) (f1 : iF), lv = [some (iR 54), some (iR 74), some (iI i), some (iI s), some (iR 15), some (iI lf), some (iI who)] ∧ st = [(iI x), (iI 7), (iR 57)] ∧ f' = (mx [57] f f1) ∧ g = g' ∧ (f1 57 0 = s) ∧ (f1 57 1 = i) ∧ (f1 57 2 = fcC (f (fv 15 5) 0) (fct (aC f) (f 7) (f (fv 1 15) 0) (f 75) (f (fv 74 1) 0) i) 2) ∧ (f1 57 3 = fcC (f (fv 15 5) 0) (fct (aC f) (f 7) (f (fv 1 15) 0) (f 75) (f (fv 74 1) 0) i) 3) ∧ (f1 57 4 = b1 (vwl s)) ∧ (f1 57 5 = (if f 7 s = -1 then 9 else f 7 s)) ∧ (f1 57 6 = fcC (f (fv 15 5) 0) (fct (aC f) (f 7) (f (fv 1 15) 0) (f 75) (f (fv 74 1) 0) i) 6) ∧ (x = fcC (f (fv 15 5) 0) (fct (aC f) (f 7) (f (fv 1 15) 0) (f 75) (f (fv 74 1) 0) i) 7) ∧ (lf = (if 0 < i then f 75 (i - 1) else 29)) ∧ (who = f 7 s) ∧ (n : Int) = 1)) 1 (by omega) rfl rfl (fun n j lv st f' g' hn hI O J hO hF hB => ?_) (fun hvs hin O J hO hF => ?_)
  · rcases hI with hI | hI | hI | hI | hI | hI | hI
    · obtain ⟨rfl, lf, rfl, rfl, rfl, rfl, hlf, hm⟩ := hI
      have hrw1 := hrw.1
      have hcs := hcb.2 s (by omega) (by omega)
      refine ⟨show 0 ≤ (s : Int) ∧ s < 29 from by omega, ?_⟩
      refine ⟨show 0 ≤ (0 : Int) ∧ 0 < 9 from by decide, ?_⟩
      refine ⟨show 0 ≤ (1 : Int) ∧ 1 < 9 from by decide, ?_⟩
      refine hO (k_asks (by omega) (fun (hh_1 : bit (f (fv 15 5) 0) 2 = true) => ?_) (fun (hh_2 : bit (f (fv 15 5) 0) 2 = false) => ?_))
      · refine ⟨fun h => absurd (show (1 : Int) = 0 from h) (by decide), fun _ => ?_⟩
        refine ⟨show 0 ≤ (i : Int) ∧ i < 60 from by omega, ?_⟩
        refine hF (1 : Int).toNat ?_ (Or.inr (Or.inl ⟨rfl, lf, f 7 s, f 56 i, (wv (wv f 57 0 s) 57 1 i), rfl, rfl, (mx_wv rfl (mx_wv rfl mx_rf)), rfl, ?_, ?_, ?_, ?_, ?_, ?_⟩))
        · omega
        · first | exact zf0 | exact hx | rfl
        · first | exact zf1 | exact hx | rfl
        · first | (rw [fcC_t ‹bit _ 2 = true›, hlg ‹bit _ 2 = true›]; rfl) | rw [fcC_f (by decide) ‹bit _ 2 = false›]
        · exact hlf
        · first | exact hwho | rfl
        · omega
      · refine ⟨fun _ => ?_, fun h => absurd (show (0 : Int) = 0 from by decide) h⟩
        refine hF (1 : Int).toNat ?_ (Or.inr (Or.inl ⟨rfl, lf, f 7 s, 0, (wv (wv f 57 0 s) 57 1 i), rfl, rfl, (mx_wv rfl (mx_wv rfl mx_rf)), rfl, ?_, ?_, ?_, ?_, ?_, ?_⟩))
        · omega
        · first | exact zf0 | exact hx | rfl
        · first | exact zf1 | exact hx | rfl
        · first | (rw [fcC_t ‹bit _ 2 = true›, hlg ‹bit _ 2 = true›]; rfl) | rw [fcC_f (by decide) ‹bit _ 2 = false›]
        · exact hlf
        · first | exact hwho | rfl
        · omega
    · obtain ⟨rfl, lf, who, x, f1, rfl, rfl, rfl, rfl, zf0, zf1, hx, hlf, hwho, hm⟩ := hI
      have hrw1 := hrw.1
      refine ⟨show 0 ≤ (2 : Int) ∧ 2 < 9 from by decide, ?_⟩
      refine hO (k_asks (by omega) (fun (hh_3 : bit (f (fv 15 5) 0) 3 = true) => ?_) (fun (hh_4 : bit (f (fv 15 5) 0) 3 = false) => ?_))
      · refine ⟨fun h => absurd (show (1 : Int) = 0 from h) (by decide), fun _ => ?_⟩
        refine hO (k_ahead_bk (by omega) (show 0 ≤ i ∧ i < 60 from by omega) ?_)
        refine hF (1 : Int).toNat ?_ (Or.inr (Or.inr (Or.inl ⟨rfl, lf, who, cI (fun k => decide ((f 75 k) = s)) i, (wv f1 57 2 x), rfl, rfl, (mx_wv rfl rfl), rfl, ?_, ?_, ?_, ?_, ?_, ?_, ?_⟩)))
        · omega
        · first | exact zf0 | exact hx | rfl
        · first | exact zf1 | exact hx | rfl
        · first | exact zf2 | exact hx | rfl
        · first | (rw [fcC_t ‹bit _ 3 = true›, hsg]; rfl) | rw [fcC_f (by decide) ‹bit _ 3 = false›]
        · exact hlf
        · first | exact hwho | rfl
        · omega
      · refine ⟨fun _ => ?_, fun h => absurd (show (0 : Int) = 0 from by decide) h⟩
        refine hF (1 : Int).toNat ?_ (Or.inr (Or.inr (Or.inl ⟨rfl, lf, who, 0, (wv f1 57 2 x), rfl, rfl, (mx_wv rfl rfl), rfl, ?_, ?_, ?_, ?_, ?_, ?_, ?_⟩)))
        · omega
        · first | exact zf0 | exact hx | rfl
        · first | exact zf1 | exact hx | rfl
        · first | exact zf2 | exact hx | rfl
        · first | (rw [fcC_t ‹bit _ 3 = true›, hsg]; rfl) | rw [fcC_f (by decide) ‹bit _ 3 = false›]
        · exact hlf
        · first | exact hwho | rfl
        · omega
    · obtain ⟨rfl, lf, who, x, f1, rfl, rfl, rfl, rfl, zf0, zf1, zf2, hx, hlf, hwho, hm⟩ := hI
      have hrw1 := hrw.1
      refine ⟨show 0 ≤ (3 : Int) ∧ 3 < 9 from by decide, ?_⟩
      refine hO (k_isVowel (by omega) (fun (hh_5 : (s = 0 ∨ s = 4 ∨ s = 8 ∨ s = 14 ∨ s = 20)) => ?_) (fun (hh_6 : ¬ ((s = 0 ∨ s = 4 ∨ s = 8 ∨ s = 14 ∨ s = 20))) => ?_))
      · refine ⟨fun h => absurd (show (1 : Int) = 0 from h) (by decide), fun _ => ?_⟩
        refine hF (1 : Int).toNat ?_ (Or.inr (Or.inr (Or.inr (Or.inl ⟨rfl, lf, who, 1, (wv f1 57 3 x), rfl, rfl, (mx_wv rfl rfl), rfl, ?_, ?_, ?_, ?_, ?_, ?_, ?_, ?_⟩))))
        · omega
        · first | exact zf0 | exact hx | rfl
        · first | exact zf1 | exact hx | rfl
        · first | exact zf2 | exact hx | rfl
        · first | exact zf3 | exact hx | rfl
        · first | (rw [vwl_t (by assumption)]; rfl) | (rw [vwl_f (by assumption)]; rfl)
        · exact hlf
        · first | exact hwho | rfl
        · omega
      · refine ⟨fun _ => ?_, fun h => absurd (show (0 : Int) = 0 from by decide) h⟩
        refine hF (1 : Int).toNat ?_ (Or.inr (Or.inr (Or.inr (Or.inl ⟨rfl, lf, who, 0, (wv f1 57 3 x), rfl, rfl, (mx_wv rfl rfl), rfl, ?_, ?_, ?_, ?_, ?_, ?_, ?_, ?_⟩))))
        · omega
        · first | exact zf0 | exact hx | rfl
        · first | exact zf1 | exact hx | rfl
        · first | exact zf2 | exact hx | rfl
        · first | exact zf3 | exact hx | rfl
        · first | (rw [vwl_t (by assumption)]; rfl) | (rw [vwl_f (by assumption)]; rfl)
        · exact hlf
        · first | exact hwho | rfl
        · omega
    · obtain ⟨rfl, lf, who, x, f1, rfl, rfl, rfl, rfl, zf0, zf1, zf2, zf3, hx, hlf, hwho, hm⟩ := hI
      have hrw1 := hrw.1
      refine ⟨show 0 ≤ (4 : Int) ∧ 4 < 9 from by decide, ?_⟩
      refine ⟨fun (hh_7 : who = (-1)) => ?_, fun (hh_7 : ¬ who = (-1)) => ?_⟩
      · refine hF (1 : Int).toNat ?_ (Or.inr (Or.inr (Or.inr (Or.inr (Or.inl ⟨rfl, lf, who, 9, (wv f1 57 4 x), rfl, rfl, (mx_wv rfl rfl), rfl, ?_, ?_, ?_, ?_, ?_, ?_, ?_, ?_, ?_⟩)))))
        · omega
        · first | exact zf0 | exact hx | rfl
        · first | exact zf1 | exact hx | rfl
        · first | exact zf2 | exact hx | rfl
        · first | exact zf3 | exact hx | rfl
        · first | exact zf4 | exact hx | rfl
        · first | rw [if_pos (by omega)] | (rw [if_neg (by omega)]; exact hwho)
        · exact hlf
        · first | exact hwho | rfl
        · omega
      · refine hF (1 : Int).toNat ?_ (Or.inr (Or.inr (Or.inr (Or.inr (Or.inl ⟨rfl, lf, who, who, (wv f1 57 4 x), rfl, rfl, (mx_wv rfl rfl), rfl, ?_, ?_, ?_, ?_, ?_, ?_, ?_, ?_, ?_⟩)))))
        · omega
        · first | exact zf0 | exact hx | rfl
        · first | exact zf1 | exact hx | rfl
        · first | exact zf2 | exact hx | rfl
        · first | exact zf3 | exact hx | rfl
        · first | exact zf4 | exact hx | rfl
        · first | rw [if_pos (by omega)] | (rw [if_neg (by omega)]; exact hwho)
        · exact hlf
        · first | exact hwho | rfl
        · omega
    · obtain ⟨rfl, lf, who, x, f1, rfl, rfl, rfl, rfl, zf0, zf1, zf2, zf3, zf4, hx, hlf, hwho, hm⟩ := hI
      have hrw1 := hrw.1
      refine ⟨show 0 ≤ (5 : Int) ∧ 5 < 9 from by decide, ?_⟩
      refine hO (k_asks (by omega) (fun (hh_8 : bit (f (fv 15 5) 0) 6 = true) => ?_) (fun (hh_9 : bit (f (fv 15 5) 0) 6 = false) => ?_))
      · refine ⟨fun h => absurd (show (1 : Int) = 0 from h) (by decide), fun _ => ?_⟩
        refine hF (1 : Int).toNat ?_ (Or.inr (Or.inr (Or.inr (Or.inr (Or.inr (Or.inl ⟨rfl, lf, who, f (fv 1 15) 0, (wv f1 57 5 x), rfl, rfl, (mx_wv rfl rfl), rfl, ?_, ?_, ?_, ?_, ?_, ?_, ?_, ?_, ?_, ?_⟩))))))
        · omega
        · first | exact zf0 | exact hx | rfl
        · first | exact zf1 | exact hx | rfl
        · first | exact zf2 | exact hx | rfl
        · first | exact zf3 | exact hx | rfl
        · first | exact zf4 | exact hx | rfl
        · first | exact zf5 | exact hx | rfl
        · first | (rw [fcC_t ‹bit _ 6 = true›]; rfl) | rw [fcC_f (by decide) ‹bit _ 6 = false›]
        · exact hlf
        · first | exact hwho | rfl
        · omega
      · refine ⟨fun _ => ?_, fun h => absurd (show (0 : Int) = 0 from by decide) h⟩
        refine hF (1 : Int).toNat ?_ (Or.inr (Or.inr (Or.inr (Or.inr (Or.inr (Or.inl ⟨rfl, lf, who, 0, (wv f1 57 5 x), rfl, rfl, (mx_wv rfl rfl), rfl, ?_, ?_, ?_, ?_, ?_, ?_, ?_, ?_, ?_, ?_⟩))))))
        · omega
        · first | exact zf0 | exact hx | rfl
        · first | exact zf1 | exact hx | rfl
        · first | exact zf2 | exact hx | rfl
        · first | exact zf3 | exact hx | rfl
        · first | exact zf4 | exact hx | rfl
        · first | exact zf5 | exact hx | rfl
        · first | (rw [fcC_t ‹bit _ 6 = true›]; rfl) | rw [fcC_f (by decide) ‹bit _ 6 = false›]
        · exact hlf
        · first | exact hwho | rfl
        · omega
    · obtain ⟨rfl, lf, who, x, f1, rfl, rfl, rfl, rfl, zf0, zf1, zf2, zf3, zf4, zf5, hx, hlf, hwho, hm⟩ := hI
      have hrw1 := hrw.1
      refine ⟨show 0 ≤ (6 : Int) ∧ 6 < 9 from by decide, ?_⟩
      refine hO (k_asks (by omega) (fun (hh_10 : bit (f (fv 15 5) 0) 7 = true) => ?_) (fun (hh_11 : bit (f (fv 15 5) 0) 7 = false) => ?_))
      · refine ⟨fun h => absurd (show (1 : Int) = 0 from h) (by decide), fun _ => ?_⟩
        refine hO (k_isAble (by omega) (show (abOK f) from hab) (fun (hh_12 : (aC f) lf = true) => ?_) (fun (hh_13 : (aC f) lf = false) => ?_))
        · refine ⟨fun h => absurd (show (1 : Int) = 0 from h) (by decide), fun _ => ?_⟩
          refine hF (1 : Int).toNat ?_ (Or.inr (Or.inr (Or.inr (Or.inr (Or.inr (Or.inr (⟨rfl, lf, who, lf, (wv f1 57 6 x), rfl, rfl, (mx_wv rfl rfl), rfl, ?_, ?_, ?_, ?_, ?_, ?_, ?_, ?_, ?_, ?_, ?_⟩)))))))
          · omega
          · first | exact zf0 | exact hx | rfl
          · first | exact zf1 | exact hx | rfl
          · first | exact zf2 | exact hx | rfl
          · first | exact zf3 | exact hx | rfl
          · first | exact zf4 | exact hx | rfl
          · first | exact zf5 | exact hx | rfl
          · first | exact zf6 | exact hx | rfl
          · first | (rw [fcC_t ‹bit _ 7 = true›]; show _ = lfI (aC f) (f 75) i; exact lf_ok hlf ‹_›) | (rw [fcC_t ‹bit _ 7 = true›]; show _ = lfI (aC f) (f 75) i; exact lf_no hlf ‹_›) | rw [fcC_f (by decide) ‹bit _ 7 = false›]
          · exact hlf
          · first | exact hwho | rfl
          · omega
        · refine ⟨fun _ => ?_, fun h => absurd (show (0 : Int) = 0 from by decide) h⟩
          refine hF (1 : Int).toNat ?_ (Or.inr (Or.inr (Or.inr (Or.inr (Or.inr (Or.inr (⟨rfl, lf, who, 29, (wv f1 57 6 x), rfl, rfl, (mx_wv rfl rfl), rfl, ?_, ?_, ?_, ?_, ?_, ?_, ?_, ?_, ?_, ?_, ?_⟩)))))))
          · omega
          · first | exact zf0 | exact hx | rfl
          · first | exact zf1 | exact hx | rfl
          · first | exact zf2 | exact hx | rfl
          · first | exact zf3 | exact hx | rfl
          · first | exact zf4 | exact hx | rfl
          · first | exact zf5 | exact hx | rfl
          · first | exact zf6 | exact hx | rfl
          · first | (rw [fcC_t ‹bit _ 7 = true›]; show _ = lfI (aC f) (f 75) i; exact lf_ok hlf ‹_›) | (rw [fcC_t ‹bit _ 7 = true›]; show _ = lfI (aC f) (f 75) i; exact lf_no hlf ‹_›) | rw [fcC_f (by decide) ‹bit _ 7 = false›]
          · exact hlf
          · first | exact hwho | rfl
          · omega
      · refine ⟨fun _ => ?_, fun h => absurd (show (0 : Int) = 0 from by decide) h⟩
        refine hF (1 : Int).toNat ?_ (Or.inr (Or.inr (Or.inr (Or.inr (Or.inr (Or.inr (⟨rfl, lf, who, 0, (wv f1 57 6 x), rfl, rfl, (mx_wv rfl rfl), rfl, ?_, ?_, ?_, ?_, ?_, ?_, ?_, ?_, ?_, ?_, ?_⟩)))))))
        · omega
        · first | exact zf0 | exact hx | rfl
        · first | exact zf1 | exact hx | rfl
        · first | exact zf2 | exact hx | rfl
        · first | exact zf3 | exact hx | rfl
        · first | exact zf4 | exact hx | rfl
        · first | exact zf5 | exact hx | rfl
        · first | exact zf6 | exact hx | rfl
        · first | (rw [fcC_t ‹bit _ 7 = true›]; show _ = lfI (aC f) (f 75) i; exact lf_ok hlf ‹_›) | (rw [fcC_t ‹bit _ 7 = true›]; show _ = lfI (aC f) (f 75) i; exact lf_no hlf ‹_›) | rw [fcC_f (by decide) ‹bit _ 7 = false›]
        · exact hlf
        · first | exact hwho | rfl
        · omega
    · obtain ⟨rfl, lf, who, x, f1, rfl, rfl, rfl, rfl, zf0, zf1, zf2, zf3, zf4, zf5, zf6, hx, hlf, hwho, hm⟩ := hI
      have hrw1 := hrw.1
      refine ⟨show 0 ≤ (7 : Int) ∧ 7 < 9 from by decide, ?_⟩
      refine hO (k_isLetter (by omega) (fun (hh_14 : 0 ≤ s) (hh_15 : s < 26) => ?_) (fun (hh_16 : ¬ (0 ≤ s ∧ s < 26)) => ?_))
      · refine ⟨fun h => absurd (show (1 : Int) = 0 from h) (by decide), fun _ => ?_⟩
        refine hO (k_isLetter (by omega) (fun (hh_17 : 0 ≤ lf) (hh_18 : lf < 26) => ?_) (fun (hh_19 : ¬ (0 ≤ lf ∧ lf < 26)) => ?_))
        · refine ⟨fun h => absurd (show (1 : Int) = 0 from h) (by decide), fun _ => ?_⟩
          refine ⟨show 0 ≤ (8 : Int) ∧ 8 < 9 from by decide, ?_⟩
          by_cases hi0 : 0 < i
          · rw [if_pos hi0] at hlf
            have hril := hrw.2 (i - 1) (by omega) (by omega)
            have hx8 : (0 : Int) = fsI (f 75) (f (fv 74 1) 0) i := by
                    unfold fsI
                    first | (rw [isL_t.mpr (show 0 ≤ i ∧ i < (f (fv 74 1) 0) ∧ f 75 i < 26 by omega), isL_f.mpr (show ¬ (0 ≤ i - 1 ∧ i - 1 < (f (fv 74 1) 0) ∧ f 75 (i - 1) < 26) by omega)]; rfl) | (rw [isL_f.mpr (show ¬ (0 ≤ i ∧ i < (f (fv 74 1) 0) ∧ f 75 i < 26) by omega)]; rfl) | (rw [isL_t.mpr (show 0 ≤ i ∧ i < (f (fv 74 1) 0) ∧ f 75 i < 26 by omega), isL_t.mpr (show 0 ≤ i - 1 ∧ i - 1 < (f (fv 74 1) 0) ∧ f 75 (i - 1) < 26 by omega)]; rfl)
            rw [show (wv (wv (mx [57] f f1) 57 7 x) 57 8 0) = mx [57] f (wv (wv f1 57 7 x) 57 8 0) from (mx_wv rfl (mx_wv rfl rfl))]
            exact k0 (wv (wv f1 57 7 x) 57 8 0) (fun k h0 h1 => by
                    have h : k = 0 ∨ k = 1 ∨ k = 2 ∨ k = 3 ∨ k = 4 ∨ k = 5 ∨ k = 6 ∨ k = 7 ∨ k = 8 := by omega
                    rcases h with h | h | h | h | h | h | h | h | h <;> subst h
                    · exact zf0.trans hsg
                    · exact zf1
                    · exact zf2
                    · exact zf3
                    · rw [show ((wv (wv f1 57 7 x) 57 8 0) 57 4 : Int) = b1 (vwl (f 75 i)) from zf4.trans (by rw [hsg])]; rfl
                    · rw [show ((wv (wv f1 57 7 x) 57 8 0) 57 5 : Int) = (if f 7 (f 75 i) = -1 then 9 else f 7 (f 75 i)) from zf5.trans (by rw [hsg])]; rfl
                    · exact zf6
                    · exact hx
                    · exact hx8)
          · rw [if_neg hi0] at hlf
            have hx8 : (0 : Int) = fsI (f 75) (f (fv 74 1) 0) i := by
                    unfold fsI
                    first | (rw [isL_t.mpr (show 0 ≤ i ∧ i < (f (fv 74 1) 0) ∧ f 75 i < 26 by omega), isL_f.mpr (show ¬ (0 ≤ i - 1 ∧ i - 1 < (f (fv 74 1) 0) ∧ f 75 (i - 1) < 26) by omega)]; rfl) | (rw [isL_f.mpr (show ¬ (0 ≤ i ∧ i < (f (fv 74 1) 0) ∧ f 75 i < 26) by omega)]; rfl) | (rw [isL_t.mpr (show 0 ≤ i ∧ i < (f (fv 74 1) 0) ∧ f 75 i < 26 by omega), isL_t.mpr (show 0 ≤ i - 1 ∧ i - 1 < (f (fv 74 1) 0) ∧ f 75 (i - 1) < 26 by omega)]; rfl)
            rw [show (wv (wv (mx [57] f f1) 57 7 x) 57 8 0) = mx [57] f (wv (wv f1 57 7 x) 57 8 0) from (mx_wv rfl (mx_wv rfl rfl))]
            exact k0 (wv (wv f1 57 7 x) 57 8 0) (fun k h0 h1 => by
                    have h : k = 0 ∨ k = 1 ∨ k = 2 ∨ k = 3 ∨ k = 4 ∨ k = 5 ∨ k = 6 ∨ k = 7 ∨ k = 8 := by omega
                    rcases h with h | h | h | h | h | h | h | h | h <;> subst h
                    · exact zf0.trans hsg
                    · exact zf1
                    · exact zf2
                    · exact zf3
                    · rw [show ((wv (wv f1 57 7 x) 57 8 0) 57 4 : Int) = b1 (vwl (f 75 i)) from zf4.trans (by rw [hsg])]; rfl
                    · rw [show ((wv (wv f1 57 7 x) 57 8 0) 57 5 : Int) = (if f 7 (f 75 i) = -1 then 9 else f 7 (f 75 i)) from zf5.trans (by rw [hsg])]; rfl
                    · exact zf6
                    · exact hx
                    · exact hx8)
        · refine ⟨fun _ => ?_, fun h => absurd (show (0 : Int) = 0 from by decide) h⟩
          refine ⟨show 0 ≤ (8 : Int) ∧ 8 < 9 from by decide, ?_⟩
          by_cases hi0 : 0 < i
          · rw [if_pos hi0] at hlf
            have hril := hrw.2 (i - 1) (by omega) (by omega)
            have hx8 : (1 : Int) = fsI (f 75) (f (fv 74 1) 0) i := by
                    unfold fsI
                    first | (rw [isL_t.mpr (show 0 ≤ i ∧ i < (f (fv 74 1) 0) ∧ f 75 i < 26 by omega), isL_f.mpr (show ¬ (0 ≤ i - 1 ∧ i - 1 < (f (fv 74 1) 0) ∧ f 75 (i - 1) < 26) by omega)]; rfl) | (rw [isL_f.mpr (show ¬ (0 ≤ i ∧ i < (f (fv 74 1) 0) ∧ f 75 i < 26) by omega)]; rfl) | (rw [isL_t.mpr (show 0 ≤ i ∧ i < (f (fv 74 1) 0) ∧ f 75 i < 26 by omega), isL_t.mpr (show 0 ≤ i - 1 ∧ i - 1 < (f (fv 74 1) 0) ∧ f 75 (i - 1) < 26 by omega)]; rfl)
            rw [show (wv (wv (mx [57] f f1) 57 7 x) 57 8 1) = mx [57] f (wv (wv f1 57 7 x) 57 8 1) from (mx_wv rfl (mx_wv rfl rfl))]
            exact k0 (wv (wv f1 57 7 x) 57 8 1) (fun k h0 h1 => by
                    have h : k = 0 ∨ k = 1 ∨ k = 2 ∨ k = 3 ∨ k = 4 ∨ k = 5 ∨ k = 6 ∨ k = 7 ∨ k = 8 := by omega
                    rcases h with h | h | h | h | h | h | h | h | h <;> subst h
                    · exact zf0.trans hsg
                    · exact zf1
                    · exact zf2
                    · exact zf3
                    · rw [show ((wv (wv f1 57 7 x) 57 8 1) 57 4 : Int) = b1 (vwl (f 75 i)) from zf4.trans (by rw [hsg])]; rfl
                    · rw [show ((wv (wv f1 57 7 x) 57 8 1) 57 5 : Int) = (if f 7 (f 75 i) = -1 then 9 else f 7 (f 75 i)) from zf5.trans (by rw [hsg])]; rfl
                    · exact zf6
                    · exact hx
                    · exact hx8)
          · rw [if_neg hi0] at hlf
            have hx8 : (1 : Int) = fsI (f 75) (f (fv 74 1) 0) i := by
                    unfold fsI
                    first | (rw [isL_t.mpr (show 0 ≤ i ∧ i < (f (fv 74 1) 0) ∧ f 75 i < 26 by omega), isL_f.mpr (show ¬ (0 ≤ i - 1 ∧ i - 1 < (f (fv 74 1) 0) ∧ f 75 (i - 1) < 26) by omega)]; rfl) | (rw [isL_f.mpr (show ¬ (0 ≤ i ∧ i < (f (fv 74 1) 0) ∧ f 75 i < 26) by omega)]; rfl) | (rw [isL_t.mpr (show 0 ≤ i ∧ i < (f (fv 74 1) 0) ∧ f 75 i < 26 by omega), isL_t.mpr (show 0 ≤ i - 1 ∧ i - 1 < (f (fv 74 1) 0) ∧ f 75 (i - 1) < 26 by omega)]; rfl)
            rw [show (wv (wv (mx [57] f f1) 57 7 x) 57 8 1) = mx [57] f (wv (wv f1 57 7 x) 57 8 1) from (mx_wv rfl (mx_wv rfl rfl))]
            exact k0 (wv (wv f1 57 7 x) 57 8 1) (fun k h0 h1 => by
                    have h : k = 0 ∨ k = 1 ∨ k = 2 ∨ k = 3 ∨ k = 4 ∨ k = 5 ∨ k = 6 ∨ k = 7 ∨ k = 8 := by omega
                    rcases h with h | h | h | h | h | h | h | h | h <;> subst h
                    · exact zf0.trans hsg
                    · exact zf1
                    · exact zf2
                    · exact zf3
                    · rw [show ((wv (wv f1 57 7 x) 57 8 1) 57 4 : Int) = b1 (vwl (f 75 i)) from zf4.trans (by rw [hsg])]; rfl
                    · rw [show ((wv (wv f1 57 7 x) 57 8 1) 57 5 : Int) = (if f 7 (f 75 i) = -1 then 9 else f 7 (f 75 i)) from zf5.trans (by rw [hsg])]; rfl
                    · exact zf6
                    · exact hx
                    · exact hx8)
      · refine ⟨fun _ => ?_, fun h => absurd (show (0 : Int) = 0 from by decide) h⟩
        refine ⟨show 0 ≤ (8 : Int) ∧ 8 < 9 from by decide, ?_⟩
        by_cases hi0 : 0 < i
        · rw [if_pos hi0] at hlf
          have hril := hrw.2 (i - 1) (by omega) (by omega)
          have hx8 : (0 : Int) = fsI (f 75) (f (fv 74 1) 0) i := by
                  unfold fsI
                  first | (rw [isL_t.mpr (show 0 ≤ i ∧ i < (f (fv 74 1) 0) ∧ f 75 i < 26 by omega), isL_f.mpr (show ¬ (0 ≤ i - 1 ∧ i - 1 < (f (fv 74 1) 0) ∧ f 75 (i - 1) < 26) by omega)]; rfl) | (rw [isL_f.mpr (show ¬ (0 ≤ i ∧ i < (f (fv 74 1) 0) ∧ f 75 i < 26) by omega)]; rfl) | (rw [isL_t.mpr (show 0 ≤ i ∧ i < (f (fv 74 1) 0) ∧ f 75 i < 26 by omega), isL_t.mpr (show 0 ≤ i - 1 ∧ i - 1 < (f (fv 74 1) 0) ∧ f 75 (i - 1) < 26 by omega)]; rfl)
          rw [show (wv (wv (mx [57] f f1) 57 7 x) 57 8 0) = mx [57] f (wv (wv f1 57 7 x) 57 8 0) from (mx_wv rfl (mx_wv rfl rfl))]
          exact k0 (wv (wv f1 57 7 x) 57 8 0) (fun k h0 h1 => by
                  have h : k = 0 ∨ k = 1 ∨ k = 2 ∨ k = 3 ∨ k = 4 ∨ k = 5 ∨ k = 6 ∨ k = 7 ∨ k = 8 := by omega
                  rcases h with h | h | h | h | h | h | h | h | h <;> subst h
                  · exact zf0.trans hsg
                  · exact zf1
                  · exact zf2
                  · exact zf3
                  · rw [show ((wv (wv f1 57 7 x) 57 8 0) 57 4 : Int) = b1 (vwl (f 75 i)) from zf4.trans (by rw [hsg])]; rfl
                  · rw [show ((wv (wv f1 57 7 x) 57 8 0) 57 5 : Int) = (if f 7 (f 75 i) = -1 then 9 else f 7 (f 75 i)) from zf5.trans (by rw [hsg])]; rfl
                  · exact zf6
                  · exact hx
                  · exact hx8)
        · rw [if_neg hi0] at hlf
          have hx8 : (0 : Int) = fsI (f 75) (f (fv 74 1) 0) i := by
                  unfold fsI
                  first | (rw [isL_t.mpr (show 0 ≤ i ∧ i < (f (fv 74 1) 0) ∧ f 75 i < 26 by omega), isL_f.mpr (show ¬ (0 ≤ i - 1 ∧ i - 1 < (f (fv 74 1) 0) ∧ f 75 (i - 1) < 26) by omega)]; rfl) | (rw [isL_f.mpr (show ¬ (0 ≤ i ∧ i < (f (fv 74 1) 0) ∧ f 75 i < 26) by omega)]; rfl) | (rw [isL_t.mpr (show 0 ≤ i ∧ i < (f (fv 74 1) 0) ∧ f 75 i < 26 by omega), isL_t.mpr (show 0 ≤ i - 1 ∧ i - 1 < (f (fv 74 1) 0) ∧ f 75 (i - 1) < 26 by omega)]; rfl)
          rw [show (wv (wv (mx [57] f f1) 57 7 x) 57 8 0) = mx [57] f (wv (wv f1 57 7 x) 57 8 0) from (mx_wv rfl (mx_wv rfl rfl))]
          exact k0 (wv (wv f1 57 7 x) 57 8 0) (fun k h0 h1 => by
                  have h : k = 0 ∨ k = 1 ∨ k = 2 ∨ k = 3 ∨ k = 4 ∨ k = 5 ∨ k = 6 ∨ k = 7 ∨ k = 8 := by omega
                  rcases h with h | h | h | h | h | h | h | h | h <;> subst h
                  · exact zf0.trans hsg
                  · exact zf1
                  · exact zf2
                  · exact zf3
                  · rw [show ((wv (wv f1 57 7 x) 57 8 0) 57 4 : Int) = b1 (vwl (f 75 i)) from zf4.trans (by rw [hsg])]; rfl
                  · rw [show ((wv (wv f1 57 7 x) 57 8 0) 57 5 : Int) = (if f 7 (f 75 i) = -1 then 9 else f 7 (f 75 i)) from zf5.trans (by rw [hsg])]; rfl
                  · exact zf6
                  · exact hx
                  · exact hx8)
  · have hrw1 := hrw.1
    have hri := hrw.2 i (by omega) (by omega)
    have hcs := hcb.2 s (by omega) (by omega)
    have hcb1 := hcb.1
    refine ⟨fun (hh_20 : 0 < i) => ?_, fun (hh_20 : ¬ 0 < i) => ?_⟩
    · refine Or.inl ⟨show inr (i - 1) from by constructor <;> omega, ?_⟩
      refine hO (k_get_bk (by omega) (show 0 ≤ (i - 1) ∧ (i - 1) < 60 from by omega) ?_)
      refine hF (1 : Int).toNat ?_ (Or.inl ⟨rfl, (f 75 (i - 1)), rfl, rfl, rfl, rfl, ?_, ?_⟩)
      · omega
      · first | rw [if_pos (by omega)] | rw [if_neg (by omega)]
      · omega
    · refine hF (1 : Int).toNat ?_ (Or.inl ⟨rfl, 29, rfl, rfl, rfl, rfl, ?_, ?_⟩)
      · omega
      · first | rw [if_pos (by omega)] | rw [if_neg (by omega)]
      · omega
set_option maxRecDepth 100000 in
set_option maxHeartbeats 4000000 in
theorem k_payAt_bk {i : Int} (hd : 3 ≤ d) (hi : 0 ≤ i ∧ i < (f (fv 74 1) 0)) (hrw : rowB (f (fv 74 1) 0) 60 (f 75)) (hsn : (f 75 i) < 29) (hlg : bit (f (fv 15 5) 0) 2 = true → (f 56 i) = lgI (aC f) (f 75) (f (fv 74 1) 0) i) (hcb : (coB f)) (hab : (abOK f)) (hl : (lC f)) (hA : lwask (f (fv 15 5) 0) (lwC f)) (hday : 0 ≤ (f (fv 1 15) 0) ∧ (f (fv 1 15) 0) ≤ 9999) (hmo : mOK (lwC f) g) (k0 : ∀ f1 : iF, ∀ g1 : iG, (mOK (lwC f) g1) → Q (some (iI (pyI (aC f) (f 7) (f (fv 1 15) 0) (lwC f) (f 75) (f (fv 74 1) 0) i))) (mx [57, 58] f f1) g1) : wq d 144 [iR 54, iR 74, iI i] f g Q := by
  obtain ⟨d, rfl⟩ : ∃ e, d = e + 1 := ⟨d - 1, by omega⟩
  refine i_meth0 rfl rfl (fun O J hO => ?_)
  have hrw1 := hrw.1
  have hri := hrw.2 i (by omega) (by omega)
  have hcs := hcb.2 (f 75 i) (by omega) (by omega)
  have hcb1 := hcb.1
  refine hO (k_get_bk (by omega) (show 0 ≤ i ∧ i < 60 from by omega) ?_)
  refine ⟨fun h => absurd (show i < 0 from h) (by omega), fun _ => ?_⟩
  refine ⟨fun _ => ?_, fun h => absurd (show i < 60 from by omega) h⟩
  refine hO (k_isSign (by omega) (fun (hh_1 : 0 ≤ (f 75 i)) (hh_2 : (f 75 i) < 29) => ?_) (fun (hh_3 : ¬ (0 ≤ (f 75 i) ∧ (f 75 i) < 29)) => ?_))
  · refine ⟨fun h => absurd (show (1 : Int) = 0 from h) (by decide), fun _ => ?_⟩
    refine ⟨fun (hh_4 : f (fv 15 4) 0 = 0) => ?_, fun (hh_4 : ¬ f (fv 15 4) 0 = 0) => ?_⟩
    · have he : pyI (aC f) (f 7) (f (fv 1 15) 0) (lwC f) (f 75) (f (fv 74 1) 0) i = 1 := by unfold pyI lwC; rw [‹f (fv 15 4) 0 = 0›]; rfl
      rw [he] at k0
      have hk := k0 f g hmo
      rw [← mx_rf] at hk
      exact hk
    · refine hO (k_facts_bk (by omega) (show 0 ≤ i ∧ i < (f (fv 74 1) 0) from hi) (show rowB (f (fv 74 1) 0) 60 (f 75) from hrw) (show (f 75 i) = (f 75 i) from rfl) (show 0 ≤ (f 75 i) ∧ (f 75 i) < 29 from by omega) (show (coB f) from hcb) (show (abOK f) from hab) (show bit (f (fv 15 5) 0) 2 = true → (f 56 i) = lgI (aC f) (f 75) (f (fv 74 1) 0) i from hlg) (fun f1_5 (hh_6 : ∀ k, 0 ≤ k → k ≤ 8 → f1_5 57 k = fcC (f (fv 15 5) 0) (fct (aC f) (f 7) (f (fv 1 15) 0) (f 75) (f (fv 74 1) 0) i) k) => ?_))
      have hF57 := hh_6
      have hpay : pyI (aC f) (f 7) (f (fv 1 15) 0) (lwC f) (f 75) (f (fv 74 1) 0) i = payM (f1_5 57) (lwC f) := by unfold pyI; rw [← payM_ask (m := (f (fv 15 5) 0)) _ hA, payM_cg (fun k a b => (hF57 k a b).symm)]
      have hfok : fok (f1_5 57) := fok_cg hF57 (fok_fct aC_in (by omega) hday (by omega) (by omega))
      have h571 : f1_5 57 1 = i := (hF57 1 (by decide) (by decide)).trans rfl
      have hfa : faok (f1_5 57) := fok_fa hfok ⟨by omega, by omega⟩
      have h577 := hfok.2.2.2.2.2.1
      refine Or.inl ⟨show inr (i * 32) from by constructor <;> omega, ?_⟩
      refine ⟨show 0 ≤ (7 : Int) ∧ 7 < 9 from by decide, ?_⟩
      refine Or.inl ⟨show inr ((f 75 i) + (f1_5 57 7)) from by constructor <;> omega, ?_⟩
      refine ⟨show ¬ (32 : Int) = 0 from by decide, show inr (((f 75 i) + (f1_5 57 7)).tmod 32) from by exact tm32 (by omega), ?_⟩
      have htm : ((f 75 i) + (f1_5 57 7)).tmod 32 = ((f 75 i) + (f1_5 57 7)) % 32 := Int.tmod_eq_emod_of_nonneg (by omega)
      refine Or.inl ⟨show inr ((i * 32) + (((f 75 i) + (f1_5 57 7)).tmod 32)) from by constructor <;> omega, ?_⟩
      refine ⟨fun h => absurd (show ((i * 32) + (((f 75 i) + (f1_5 57 7)).tmod 32)) < 0 from h) (by omega), fun _ => ?_⟩
      refine ⟨fun (hh_7 : ((i * 32) + (((f 75 i) + (f1_5 57 7)).tmod 32)) < 384) => ?_, fun (hh_7 : ¬ ((i * 32) + (((f 75 i) + (f1_5 57 7)).tmod 32)) < 384) => ?_⟩
      · refine hO (k_key (by omega) ?_)
        refine ⟨show 0 ≤ (((i * 32) + (((f 75 i) + (f1_5 57 7)).tmod 32)) : Int) ∧ ((i * 32) + (((f 75 i) + (f1_5 57 7)).tmod 32)) < 384 from by omega, ?_⟩
        refine ⟨fun (hh_8 : (lg_cmp (b_ushrL (g 59 ((i * 32) + (((f 75 i) + (f1_5 57 7)).tmod 32))) 7) (keyL (f1_5 57))).toInt = 0) => ?_, fun (hh_8 : ¬ (lg_cmp (b_ushrL (g 59 ((i * 32) + (((f 75 i) + (f1_5 57 7)).tmod 32))) 7) (keyL (f1_5 57))).toInt = 0) => ?_⟩
        · refine ⟨show 0 ≤ (((i * 32) + (((f 75 i) + (f1_5 57 7)).tmod 32)) : Int) ∧ ((i * 32) + (((f 75 i) + (f1_5 57 7)).tmod 32)) < 384 from by omega, ?_⟩
          have hm2 := mOK_hit hmo (c := ((i * 32) + (((f 75 i) + (f1_5 57 7)).tmod 32))) (by omega) (by omega) hfok (by omega) (lcmp_0.mp ‹(lg_cmp _ _).toInt = 0›)
          rw [hpay, ← hm2] at k0
          have hk := k0 (mx [57] f f1_5) g hmo
          rw [show mx [57, 58] f (mx [57] f f1_5) = (mx [57] f f1_5) from ((mx_mx rfl mx_rf)).symm] at hk
          exact hk
        · refine hO (k_payFor (by omega) (show (lC f) from hl) (show faok (f1_5 57) from hfa) (fun f1_9 => ?_))
          refine ⟨show 0 ≤ (((i * 32) + (((f 75 i) + (f1_5 57 7)).tmod 32)) : Int) ∧ ((i * 32) + (((f 75 i) + (f1_5 57 7)).tmod 32)) < 384 from by omega, ?_⟩
          refine ⟨show 0 ≤ (((i * 32) + (((f 75 i) + (f1_5 57 7)).tmod 32)) : Int) ∧ ((i * 32) + (((f 75 i) + (f1_5 57 7)).tmod 32)) < 384 from by omega, ?_⟩
          obtain ⟨hm1, hm2⟩ := mOK_put hmo (c := ((i * 32) + (((f 75 i) + (f1_5 57 7)).tmod 32))) (by omega) (by omega) hfok (by omega)
          rw [hpay, ← hm2] at k0
          have hk := k0 (mx [58] (mx [57] f f1_5) f1_9) (wg g 59 ((i * 32) + (((f 75 i) + (f1_5 57 7)).tmod 32)) ((b_shlL (keyL (f1_5 57)) 7) ||| (b_i2l (payM (f1_5 57) (lwC f))))) hm1
          rw [show mx [57, 58] f (mx [58] (mx [57] f f1_5) f1_9) = (mx [58] (mx [57] f f1_5) f1_9) from ((mx_mx rfl (mx_mx rfl mx_rf))).symm] at hk
          exact hk
      · refine hO (k_payFor (by omega) (show (lC f) from hl) (show faok (f1_5 57) from hfa) (fun f1_10 => ?_))
        rw [hpay] at k0
        have hk := k0 (mx [58] (mx [57] f f1_5) f1_10) g hmo
        rw [show mx [57, 58] f (mx [58] (mx [57] f f1_5) f1_10) = (mx [58] (mx [57] f f1_5) f1_10) from ((mx_mx rfl (mx_mx rfl mx_rf))).symm] at hk
        exact hk
  · omega
end C9
