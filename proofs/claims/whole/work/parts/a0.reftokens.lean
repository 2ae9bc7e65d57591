section C42
variable {d : Nat} {f : iF} {g : iG} {Q : Option iv → iF → iG → Prop}
/-! ===== the reference: tokens of a text ===== -/
def wdL : List Int := [32, 112, 97, 121, 32, 119, 104, 101, 110, 32, 111, 114, 32, 97, 110, 100, 32, 110, 111, 116, 32, 115, 105, 103, 110, 32, 112, 108, 97, 99, 101, 32, 108, 111, 110, 103, 32, 117, 115, 101, 100, 32, 118, 111, 119, 101, 108, 32, 111, 119, 110, 101, 114, 32, 100, 97, 121, 32, 108, 101, 102, 116, 32, 102, 105, 114, 115, 116, 32]
def wdI (k : Int) : Int := wdL.getD k.toNat 0
def wpL : List Int := [0, 4, 9, 12, 16, 20, 25, 31, 36, 41, 47, 53, 57, 62, 68]
def wpI (j : Int) : Int := wpL.getD j.toNat 0
def wlj (j : Int) : Int := wpI (j + 1) - wpI j - 1
def wdB (f : iF) : Prop := ∀ k, 0 ≤ k → k < 69 → f 93 k = wdI k
set_option maxRecDepth 100000 in
theorem wd_all : ∀ j < 14, (1 ≤ wlj (Int.ofNat j) ∧ wlj (Int.ofNat j) ≤ 5 ∧ 0 ≤ wpI (Int.ofNat j) ∧ wpI (Int.ofNat j + 1) ≤ 68 ∧ wdI (wpI (Int.ofNat j + 1)) = 32) ∧ ∀ i < 5, (Int.ofNat i < wlj (Int.ofNat j) → wdI (wpI (Int.ofNat j) + 1 + Int.ofNat i) = kwd (Int.ofNat j * 5 + Int.ofNat i) ∧ ¬ kwd (Int.ofNat j * 5 + Int.ofNat i) = 32) ∧ (wlj (Int.ofNat j) ≤ Int.ofNat i → kwd (Int.ofNat j * 5 + Int.ofNat i) = 32) := by decide +kernel
theorem wd_j {j : Int} (hj : 0 ≤ j ∧ j < 14) : (1 ≤ wlj j ∧ wlj j ≤ 5 ∧ 0 ≤ wpI j ∧ wpI (j + 1) ≤ 68 ∧ wdI (wpI (j + 1)) = 32 ∧ wpI (j + 1) = wpI j + 1 + wlj j) ∧ ∀ i, 0 ≤ i → i < 5 → (i < wlj j → wdI (wpI j + 1 + i) = kwd (j * 5 + i) ∧ ¬ kwd (j * 5 + i) = 32) ∧ (wlj j ≤ i → kwd (j * 5 + i) = 32) := by
  have h := wd_all j.toNat (by omega)
  rw [show Int.ofNat j.toNat = j by show ((j.toNat : Nat) : Int) = j; omega] at h
  refine ⟨⟨h.1.1, h.1.2.1, h.1.2.2.1, h.1.2.2.2.1, h.1.2.2.2.2, by unfold wlj; omega⟩, fun i h0 h1 => ?_⟩
  have q := h.2 i.toNat (by omega)
  rw [show Int.ofNat i.toNat = i by show ((i.toNat : Nat) : Int) = i; omega] at q
  exact q
theorem wp_lt {j : Int} (hj : 0 ≤ j ∧ j < 14) : wpI j < 68 := by have := (wd_j hj).1; omega
theorem wp_14 : wpI 14 = 68 := rfl
/-- how kind, token and value belong together -/
def tvP (k tok val : Int) : Prop := (k = 0 ∧ tok = 0) ∨ (k = 1 ∧ tok = 1) ∨ (3 ≤ k ∧ k ≤ 16 ∧ tok = 2 ∧ val = k - 3) ∨ (1000 ≤ k ∧ k ≤ 10999 ∧ tok = 3 ∧ val = k - 1000) ∨ (40 ≤ k ∧ k ≤ 62 ∧ tok = 4 ∧ val = k)
/-- a word against a keyword, as far as it was compared -/
theorem kw_yes {t : Int → Int} {a b j i : Int} (hj : 0 ≤ j ∧ j < 14) (hi : 0 ≤ i ∧ i ≤ wlj j) (hb : a + i = b) (hm : ∀ x, 0 ≤ x → x < i → kwd (j * 5 + x) = t (a + x)) (hw : wdI (wpI j + 1 + i) = 32) : kwb t a b j = true := by
  obtain ⟨⟨w1, w2, w3, w4, w5, w6⟩, wi⟩ := wd_j hj
  have e : i = wlj j := by
    by_cases e : i < wlj j
    · have := (wi i hi.1 (by omega)).1 e
      rw [this.1] at hw
      exact absurd hw this.2
    · omega
  refine kwb_t.mpr ⟨by omega, fun x x0 x1 => ?_⟩
  unfold wch
  by_cases q : a + x < b
  · rw [if_pos q]; exact hm x x0 (by omega)
  · rw [if_neg q]; exact (wi x x0 x1).2 (by omega)
theorem kw_no1 {t : Int → Int} {a b j i : Int} (hj : 0 ≤ j ∧ j < 14) (hi : 0 ≤ i ∧ i ≤ wlj j) (hb : a + i < b) (hl : ltr (t (a + i)) = true) (hw : ¬ wdI (wpI j + 1 + i) = t (a + i)) : ¬ kwb t a b j = true := by
  obtain ⟨⟨w1, w2, w3, w4, w5, w6⟩, wi⟩ := wd_j hj
  intro h
  obtain ⟨h1, h2⟩ := kwb_t.mp h
  have hlt := ltr_t.mp hl
  have q := h2 i hi.1 (by omega)
  unfold wch at q
  rw [if_pos hb] at q
  by_cases e : i < wlj j
  · rw [(wi i hi.1 (by omega)).1 e |>.1] at hw
    exact hw q
  · rw [(wi i hi.1 (by omega)).2 (by omega)] at q
    omega
theorem kw_no2 {t : Int → Int} {a b j i : Int} (hj : 0 ≤ j ∧ j < 14) (hi : 0 ≤ i ∧ i ≤ wlj j) (hb : a + i = b) (hw : ¬ wdI (wpI j + 1 + i) = 32) : ¬ kwb t a b j = true := by
  obtain ⟨⟨w1, w2, w3, w4, w5, w6⟩, wi⟩ := wd_j hj
  intro h
  obtain ⟨h1, h2⟩ := kwb_t.mp h
  by_cases e : i < wlj j
  · have q := h2 i hi.1 (by omega)
    unfold wch at q
    rw [if_neg (by omega)] at q
    exact ((wi i hi.1 (by omega)).1 e).2 q
  · rw [show wpI j + 1 + i = wpI (j + 1) by omega] at hw
    exact hw w5
theorem kw_go {t : Int → Int} {a j i : Int} (hj : 0 ≤ j ∧ j < 14) (hi : 0 ≤ i ∧ i ≤ wlj j) (hl : ltr (t (a + i)) = true) (hw : wdI (wpI j + 1 + i) = t (a + i)) : i < wlj j ∧ kwd (j * 5 + i) = t (a + i) := by
  obtain ⟨⟨w1, w2, w3, w4, w5, w6⟩, wi⟩ := wd_j hj
  have hlt := ltr_t.mp hl
  by_cases e : i < wlj j
  · refine ⟨e, ?_⟩
    rw [← hw]; exact ((wi i hi.1 (by omega)).1 e).1.symm
  · rw [show wpI j + 1 + i = wpI (j + 1) by omega, w5] at hw
    omega
theorem wd_32 {j k : Int} (hj : 0 ≤ j ∧ j < 14) (hk : wpI j < k ∧ k ≤ wpI (j + 1)) : wdI k = 32 ↔ k = wpI (j + 1) := by
  obtain ⟨⟨w1, w2, w3, w4, w5, w6⟩, wi⟩ := wd_j hj
  constructor
  · intro h
    by_cases e : k = wpI (j + 1)
    · exact e
    · have q := (wi (k - wpI j - 1) (by omega) (by omega)).1 (by omega)
      rw [show wpI j + 1 + (k - wpI j - 1) = k by omega] at q
      rw [q.1] at h
      exact absurd h q.2
  · intro h; rw [h]; exact w5
set_option maxRecDepth 100000 in
set_option maxHeartbeats 4000000 in
theorem c_raw {kk9 : Int} (hd : 1 ≤ d) (hk : 0 ≤ kk9) (ht : (f (fv 79 21) 0) ≤ 400) (k0 : (kk9 < (f (fv 79 21) 0)) → Q (some (iI (f 92 kk9))) f g) (k1 : (¬ kk9 < (f (fv 79 21) 0)) → Q (some (iI (-1))) f g) : wq d 22 [iR 79, iI kk9] f g Q := by
  obtain ⟨d, rfl⟩ : ∃ e, d = e + 1 := ⟨d - 1, by omega⟩
  refine i_meth0 rfl rfl (fun O J hO => ?_)
  refine ⟨fun (hh_1 : kk9 < f (fv 79 21) 0) => ?_, fun (hh_1 : ¬ kk9 < f (fv 79 21) 0) => ?_⟩
  · refine ⟨show 0 ≤ (kk9 : Int) ∧ kk9 < 400 from by omega, ?_⟩
    exact k0 (by assumption)
  · exact k1 (by assumption)
set_option maxRecDepth 100000 in
set_option maxHeartbeats 4000000 in
theorem c_wordAt {aa9 bb9 : Int} (hd : 1 ≤ d) (hab : 0 ≤ aa9 ∧ aa9 < bb9 ∧ bb9 ≤ (f (fv 79 21) 0) ∧ (f (fv 79 21) 0) ≤ 400) (hle : ∀ x, aa9 ≤ x → x < bb9 → ltr (f 92 x) = true) (hwd : (wdB f)) (k0 : ∀ r : Int, (kwI (f 92) aa9 bb9 = r + 3) → (0 ≤ r) → Q (some (iI r)) f g) (k1 : (kwI (f 92) aa9 bb9 = 1) → Q (some (iI (-1))) f g) : wq d 26 [iR 79, iI aa9, iI bb9] f g Q := by
  obtain ⟨d, rfl⟩ : ∃ e, d = e + 1 := ⟨d - 1, by omega⟩
  refine i_meth [(4, 5), (13, 6), (59, 5)] (fun n j lv st f' g' => (j = 4 ∧ ∃ (nu9 : Int) (kk9 : Int), lv = [some (iR 79), some (iI aa9), some (iI bb9), some (iI nu9), some (iI kk9)] ∧ st = [] ∧ f = f' ∧ g = g' ∧ (-1 ≤ nu9 ∧ nu9 + 1 ≤ 14) ∧ (kk9 = wpI (nu9 + 1)) ∧ (kwF (f 92) aa9 bb9 (nu9 + 1) = kwI (f 92) aa9 bb9) ∧ (n : Int) = 20 * (14 - nu9)) ∨ (j = 13 ∧ ∃ (nu9 : Int) (kk9 : Int) (ii9 : Int), lv = [some (iR 79), some (iI aa9), some (iI bb9), some (iI nu9), some (iI kk9), some (iI ii9)] ∧ st = [] ∧ f = f' ∧ g = g' ∧ (0 ≤ nu9 ∧ nu9 < 14) ∧ (kk9 = wpI nu9) ∧ (kwF (f 92) aa9 bb9 nu9 = kwI (f 92) aa9 bb9) ∧ ((0 ≤ ii9 ∧ ii9 ≤ wlj nu9) ∧ aa9 + ii9 ≤ bb9) ∧ (∀ x, 0 ≤ x → x < ii9 → kwd (nu9 * 5 + x) = f 92 (aa9 + x)) ∧ (n : Int) = 20 * (14 - nu9) + 18 - ii9) ∨ (j = 59 ∧ ∃ (nu9 : Int) (kk9 : Int), lv = [some (iR 79), some (iI aa9), some (iI bb9), some (iI nu9), some (iI kk9)] ∧ st = [] ∧ f = f' ∧ g = g' ∧ (0 ≤ nu9 ∧ nu9 < 14) ∧ (wpI nu9 < kk9 ∧ kk9 ≤ wpI (nu9 + 1)) ∧ (kwF (f 92) aa9 bb9 (nu9 + 1) = kwI (f 92) aa9 bb9) ∧ (n : Int) = 20 * (14 - nu9) + 8 - (kk9 - wpI nu9))) 330 (by omega) rfl rfl (fun n j lv st f' g' hn hI O J hO hF hB => ?_) (fun hvs hin O J hO hF => ?_)
  · rcases hI with hI | hI | hI
    · obtain ⟨rfl, nu9, kk9, rfl, rfl, rfl, rfl, hn, hk9, hz, hm⟩ := hI
      refine ⟨fun (hh_1 : kk9 < 68) => ?_, fun (hh_1 : ¬ kk9 < 68) => ?_⟩
      · refine Or.inl ⟨show inr (nu9 + 1) from by constructor <;> omega, ?_⟩
        refine hF (20 * (14 - (nu9 + 1)) + 18 - 0 : Int).toNat ?_ (Or.inr (Or.inl ⟨rfl, (nu9 + 1), kk9, 0, rfl, rfl, rfl, rfl, ?_, ?_, ?_, ?_, ?_, ?_⟩))
        · omega
        · (by_cases e : nu9 + 1 < 14; omega; (have q := wp_14; rw [show nu9 + 1 = 14 by omega] at hk9; omega))
        · exact hk9
        · exact hz
        · (have q : 0 ≤ nu9 + 1 ∧ nu9 + 1 < 14 := (by by_cases e : nu9 + 1 < 14; omega; (have q := wp_14; rw [show nu9 + 1 = 14 by omega] at hk9; omega)); have := (wd_j q).1; omega)
        · intro x h0 h1; omega
        · omega
      · have h14 : nu9 + 1 = 14 := by
          by_cases e : nu9 + 1 < 14
          · have := wp_lt (j := nu9 + 1) (by omega); omega
          · omega
        exact k1 (by rw [← hz, kwF_e (by omega)])
    · obtain ⟨rfl, nu9, kk9, ii9, rfl, rfl, rfl, rfl, hj, hk9, hz, hi, hm2, hm⟩ := hI
      have hwj := (wd_j hj).1
      have hwk : f 93 (kk9 + 1 + ii9) = wdI (wpI nu9 + 1 + ii9) := by have := (wd_j hj).1; rw [hwd (kk9 + 1 + ii9) (by omega) (by omega), hk9]
      refine Or.inl ⟨show inr (aa9 + ii9) from by constructor <;> omega, ?_⟩
      refine ⟨fun (hh_2 : (aa9 + ii9) < bb9) => ?_, fun (hh_2 : ¬ (aa9 + ii9) < bb9) => ?_⟩
      · refine Or.inl ⟨show inr (kk9 + 1) from by constructor <;> omega, ?_⟩
        refine Or.inl ⟨show inr ((kk9 + 1) + ii9) from by constructor <;> omega, ?_⟩
        refine ⟨show 0 ≤ (((kk9 + 1) + ii9) : Int) ∧ ((kk9 + 1) + ii9) < 69 from by omega, ?_⟩
        refine Or.inl ⟨show inr (aa9 + ii9) from by constructor <;> omega, ?_⟩
        refine ⟨show 0 ≤ ((aa9 + ii9) : Int) ∧ (aa9 + ii9) < 400 from by omega, ?_⟩
        refine ⟨fun (hh_3 : f 93 ((kk9 + 1) + ii9) = f 92 (aa9 + ii9)) => ?_, fun (hh_3 : ¬ f 93 ((kk9 + 1) + ii9) = f 92 (aa9 + ii9)) => ?_⟩
        · refine Or.inl ⟨show inr (ii9 + 1) from by constructor <;> omega, ?_⟩
          refine hB (20 * (14 - nu9) + 18 - (ii9 + 1) : Int).toNat ?_ (Or.inr (Or.inl ⟨rfl, nu9, kk9, (ii9 + 1), rfl, rfl, rfl, rfl, ?_, ?_, ?_, ?_, ?_, ?_⟩))
          · omega
          · exact hj
          · exact hk9
          · exact hz
          · (have q := kw_go hj hi.1 (hle (aa9 + ii9) (by omega) (by omega)) (by rw [← hwk]; omega); omega)
          · intro x h0 h1
            by_cases e : x = ii9
            · rw [e]; exact (kw_go hj hi.1 (hle (aa9 + ii9) (by omega) (by omega)) (by rw [← hwk]; omega)).2
            · exact hm2 x h0 (by omega)
          · omega
        · refine Or.inl ⟨show inr (aa9 + ii9) from by constructor <;> omega, ?_⟩
          refine ⟨fun (hh_4 : (aa9 + ii9) = bb9) => ?_, fun (hh_4 : ¬ (aa9 + ii9) = bb9) => ?_⟩
          · refine Or.inl ⟨show inr (kk9 + 1) from by constructor <;> omega, ?_⟩
            refine Or.inl ⟨show inr ((kk9 + 1) + ii9) from by constructor <;> omega, ?_⟩
            refine ⟨show 0 ≤ (((kk9 + 1) + ii9) : Int) ∧ ((kk9 + 1) + ii9) < 69 from by omega, ?_⟩
            refine ⟨fun (hh_5 : f 93 ((kk9 + 1) + ii9) = 32) => ?_, fun (hh_5 : ¬ f 93 ((kk9 + 1) + ii9) = 32) => ?_⟩
            · exact k0 nu9 (by rw [← hz, kwF_t (by omega) (kw_yes (by omega) hi.1 (by omega) hm2 (by rw [← hwk]; omega))]; omega) (by omega)
            · refine Or.inl ⟨show inr (kk9 + 1) from by constructor <;> omega, ?_⟩
              refine hF (20 * (14 - nu9) + 8 - ((kk9 + 1) - wpI nu9) : Int).toNat ?_ (Or.inr (Or.inr (⟨rfl, nu9, (kk9 + 1), rfl, rfl, rfl, rfl, ?_, ?_, ?_, ?_⟩)))
              · omega
              · exact hj
              · omega
              · rw [← kwF_f (by omega) (by first | exact kw_no1 hj hi.1 (by omega) (hle _ (by omega) (by omega)) (by rw [← hwk]; omega) | exact kw_no2 hj hi.1 (by omega) (by rw [← hwk]; omega))]; exact hz
              · omega
          · refine Or.inl ⟨show inr (kk9 + 1) from by constructor <;> omega, ?_⟩
            refine hF (20 * (14 - nu9) + 8 - ((kk9 + 1) - wpI nu9) : Int).toNat ?_ (Or.inr (Or.inr (⟨rfl, nu9, (kk9 + 1), rfl, rfl, rfl, rfl, ?_, ?_, ?_, ?_⟩)))
            · omega
            · exact hj
            · omega
            · rw [← kwF_f (by omega) (by first | exact kw_no1 hj hi.1 (by omega) (hle _ (by omega) (by omega)) (by rw [← hwk]; omega) | exact kw_no2 hj hi.1 (by omega) (by rw [← hwk]; omega))]; exact hz
            · omega
      · refine Or.inl ⟨show inr (aa9 + ii9) from by constructor <;> omega, ?_⟩
        refine ⟨fun (hh_6 : (aa9 + ii9) = bb9) => ?_, fun (hh_6 : ¬ (aa9 + ii9) = bb9) => ?_⟩
        · refine Or.inl ⟨show inr (kk9 + 1) from by constructor <;> omega, ?_⟩
          refine Or.inl ⟨show inr ((kk9 + 1) + ii9) from by constructor <;> omega, ?_⟩
          refine ⟨show 0 ≤ (((kk9 + 1) + ii9) : Int) ∧ ((kk9 + 1) + ii9) < 69 from by omega, ?_⟩
          refine ⟨fun (hh_7 : f 93 ((kk9 + 1) + ii9) = 32) => ?_, fun (hh_7 : ¬ f 93 ((kk9 + 1) + ii9) = 32) => ?_⟩
          · exact k0 nu9 (by rw [← hz, kwF_t (by omega) (kw_yes (by omega) hi.1 (by omega) hm2 (by rw [← hwk]; omega))]; omega) (by omega)
          · refine Or.inl ⟨show inr (kk9 + 1) from by constructor <;> omega, ?_⟩
            refine hF (20 * (14 - nu9) + 8 - ((kk9 + 1) - wpI nu9) : Int).toNat ?_ (Or.inr (Or.inr (⟨rfl, nu9, (kk9 + 1), rfl, rfl, rfl, rfl, ?_, ?_, ?_, ?_⟩)))
            · omega
            · exact hj
            · omega
            · rw [← kwF_f (by omega) (by first | exact kw_no1 hj hi.1 (by omega) (hle _ (by omega) (by omega)) (by rw [← hwk]; omega) | exact kw_no2 hj hi.1 (by omega) (by rw [← hwk]; omega))]; exact hz
            · omega
        · refine Or.inl ⟨show inr (kk9 + 1) from by constructor <;> omega, ?_⟩
          refine hF (20 * (14 - nu9) + 8 - ((kk9 + 1) - wpI nu9) : Int).toNat ?_ (Or.inr (Or.inr (⟨rfl, nu9, (kk9 + 1), rfl, rfl, rfl, rfl, ?_, ?_, ?_, ?_⟩)))
          · omega
          · exact hj
          · omega
          · rw [← kwF_f (by omega) (by first | exact kw_no1 hj hi.1 (by omega) (hle _ (by omega) (by omega)) (by rw [← hwk]; omega) | exact kw_no2 hj hi.1 (by omega) (by rw [← hwk]; omega))]; exact hz
          · omega
    · obtain ⟨rfl, nu9, kk9, rfl, rfl, rfl, rfl, hj, hk2, hz, hm⟩ := hI
      have hwj := (wd_j hj).1
      refine ⟨show 0 ≤ (kk9 : Int) ∧ kk9 < 69 from by omega, ?_⟩
      refine ⟨fun (hh_8 : f 93 kk9 = 32) => ?_, fun (hh_8 : ¬ f 93 kk9 = 32) => ?_⟩
      · refine hB (20 * (14 - nu9) : Int).toNat ?_ (Or.inl ⟨rfl, nu9, kk9, rfl, rfl, rfl, rfl, ?_, ?_, ?_, ?_⟩)
        · omega
        · omega
        · exact (wd_32 hj (by omega)).mp (by rw [← hwd kk9 (by omega) (by omega)]; omega)
        · exact hz
        · omega
      · refine Or.inl ⟨show inr (kk9 + 1) from by constructor <;> omega, ?_⟩
        refine hB (20 * (14 - nu9) + 8 - ((kk9 + 1) - wpI nu9) : Int).toNat ?_ (Or.inr (Or.inr (⟨rfl, nu9, (kk9 + 1), rfl, rfl, rfl, rfl, ?_, ?_, ?_, ?_⟩)))
        · omega
        · exact hj
        · (have q : ¬ kk9 = wpI (nu9 + 1) := (fun e => by have := hwd kk9 (by omega) (by omega); have q2 : wdI kk9 = 32 := (by rw [e]; exact hwj.2.2.2.2.1); omega); omega)
        · exact hz
        · omega
  · refine hF (20 * (14 - (-1)) : Int).toNat ?_ (Or.inl ⟨rfl, (-1), 0, rfl, rfl, rfl, rfl, ?_, ?_, ?_, ?_⟩)
    · omega
    · omega
    · rfl
    · exact kwF_0
    · omega
set_option maxRecDepth 100000 in
set_option maxHeartbeats 4000000 in
theorem c_reads (hd : 3 ≤ d) (htp : tpB (f 92) (f (fv 79 21) 0)) (hsp : 0 ≤ (f (fv 79 22) 0) ∧ (f (fv 79 22) 0) ≤ (f (fv 79 21) 0)) (hwd : (wdB f)) (k0 : ∀ f1 : iF, (f1 (fv 79 23) 0 = skp (f 92) (f (fv 79 21) 0) (f (fv 79 22) 0)) → (f1 (fv 79 22) 0 = spP (f 92) (f (fv 79 21) 0) (f1 (fv 79 23) 0)) → (tvP (kdP (f 92) (f (fv 79 21) 0) (f1 (fv 79 23) 0)) (f1 (fv 79 24) 0) (f1 (fv 79 25) 0)) → Q none (mx [fv 79 22, fv 79 23, fv 79 24, fv 79 25] f f1) g) : wq d 27 [iR 79] f g Q := by
  obtain ⟨d, rfl⟩ : ∃ e, d = e + 1 := ⟨d - 1, by omega⟩
  refine i_methZ [(0, 1), (51, 2), (90, 2)] (fun n j lv st f' g' => (j = 0 ∧ ∃ (f1 : iF), lv = [some (iR 79)] ∧ st = [] ∧ f' = (mx [fv 79 22, fv 79 23, fv 79 24, fv 79 25] f f1) ∧ g = g' ∧ (0 ≤ f1 (fv 79 22) 0 ∧ f1 (fv 79 22) 0 ≤ f (fv 79 21) 0) ∧ (skp (f 92) (f (fv 79 21) 0) (f1 (fv 79 22) 0) = skp (f 92) (f (fv 79 21) 0) (f (fv 79 22) 0)) ∧ (n : Int) = 1900 - (f1 (fv 79 22) 0)) ∨ (j = 51 ∧ ∃ (cc9 : Int) (f1 : iF), lv = [some (iR 79), some (iI cc9)] ∧ st = [] ∧ f' = (mx [fv 79 22, fv 79 23, fv 79 24, fv 79 25] f f1) ∧ g = g' ∧ (f1 (fv 79 23) 0 = skp (f 92) (f (fv 79 21) 0) (f (fv 79 22) 0) ∧ 0 ≤ f1 (fv 79 23) 0 ∧ f1 (fv 79 23) 0 < f (fv 79 21) 0) ∧ (f1 (fv 79 24) 0 = 1) ∧ (f1 (fv 79 23) 0 + 1 ≤ f1 (fv 79 22) 0 ∧ f1 (fv 79 22) 0 ≤ f (fv 79 21) 0) ∧ (ltr (f 92 (f1 (fv 79 23) 0)) = true) ∧ (ent (f 92) (f (fv 79 21) 0) (f1 (fv 79 23) 0) = wlk (fun k => ltr (f 92 k)) (f (fv 79 21) 0) (f1 (fv 79 22) 0)) ∧ (∀ x, f1 (fv 79 23) 0 ≤ x → x < f1 (fv 79 22) 0 → ltr (f 92 x) = true) ∧ (n : Int) = 900 - (f1 (fv 79 22) 0)) ∨ (j = 90 ∧ ∃ (cc9 : Int) (f1 : iF), lv = [some (iR 79), some (iI cc9)] ∧ st = [] ∧ f' = (mx [fv 79 22, fv 79 23, fv 79 24, fv 79 25] f f1) ∧ g = g' ∧ (f1 (fv 79 23) 0 = skp (f 92) (f (fv 79 21) 0) (f (fv 79 22) 0) ∧ 0 ≤ f1 (fv 79 23) 0 ∧ f1 (fv 79 23) 0 < f (fv 79 21) 0) ∧ (f1 (fv 79 24) 0 = 1) ∧ (f1 (fv 79 23) 0 + 1 ≤ f1 (fv 79 22) 0 ∧ f1 (fv 79 22) 0 ≤ f (fv 79 21) 0) ∧ (¬ ltr (f 92 (f1 (fv 79 23) 0)) = true) ∧ (dgt (f 92 (f1 (fv 79 23) 0)) = true) ∧ (ent (f 92) (f (fv 79 21) 0) (f1 (fv 79 23) 0) = wlk (fun k => dgt (f 92 k)) (f (fv 79 21) 0) (f1 (fv 79 22) 0)) ∧ (∀ x, f1 (fv 79 23) 0 ≤ x → x < f1 (fv 79 22) 0 → dgt (f 92 x) = true) ∧ (0 ≤ f1 (fv 79 25) 0 ∧ f1 (fv 79 25) 0 < 100000 ∧ (f1 (fv 79 22) 0 - f1 (fv 79 23) 0 ≤ 4 → f1 (fv 79 25) 0 = vlI (f 92) (f1 (fv 79 23) 0) (f1 (fv 79 22) 0))) ∧ (n : Int) = 900 - (f1 (fv 79 22) 0))) 1901 (by omega) rfl rfl (fun n j lv st f' g' hn hI O J hO hF hB => ?_) (fun hvs hin => ?_)
  · rcases hI with hI | hI | hI
    · obtain ⟨rfl, f1, rfl, rfl, rfl, rfl, hs, hsk0, hm⟩ := hI
      have htp1 := htp.1
      refine hO (c_raw (by omega) (show 0 ≤ (f1 (fv 79 22) 0) from by omega) (show (f (fv 79 21) 0) ≤ 400 from by omega) (fun (hh_1 : (f1 (fv 79 22) 0) < (f (fv 79 21) 0)) => ?_) (fun (hh_2 : ¬ (f1 (fv 79 22) 0) < (f (fv 79 21) 0)) => ?_))
      · refine ⟨fun (hh_3 : (f 92 (f1 (fv 79 22) 0)) = 32) => ?_, fun (hh_3 : ¬ (f 92 (f1 (fv 79 22) 0)) = 32) => ?_⟩
        · refine Or.inl ⟨show inr ((f1 (fv 79 22) 0) + 1) from by constructor <;> omega, ?_⟩
          have q2 : (wv f1 (fv 79 22) 0 ((f1 (fv 79 22) 0) + 1)) (fv 79 22) 0 = ((f1 (fv 79 22) 0) + 1) := rfl
          refine hB (1900 - ((wv f1 (fv 79 22) 0 ((f1 (fv 79 22) 0) + 1)) (fv 79 22) 0) : Int).toNat ?_ (Or.inl ⟨rfl, (wv f1 (fv 79 22) 0 ((f1 (fv 79 22) 0) + 1)), rfl, rfl, (mx_wv rfl rfl), rfl, ?_, ?_, ?_⟩)
          · omega
          · constructor <;> (show _ ≤ _; first | (show 0 ≤ f1 (fv 79 22) 0 + 1; omega) | (show f1 (fv 79 22) 0 + 1 ≤ _; omega))
          · rw [← hsk0]; exact (skp_t (by omega) (by omega)).symm
          · omega
        · refine hO (c_raw (by omega) (show 0 ≤ (f1 (fv 79 22) 0) from by omega) (show (f (fv 79 21) 0) ≤ 400 from by omega) (fun (hh_4 : (f1 (fv 79 22) 0) < (f (fv 79 21) 0)) => ?_) (fun (hh_5 : ¬ (f1 (fv 79 22) 0) < (f (fv 79 21) 0)) => ?_))
          · refine ⟨fun (hh_6 : (f 92 (f1 (fv 79 22) 0)) = 10) => ?_, fun (hh_6 : ¬ (f 92 (f1 (fv 79 22) 0)) = 10) => ?_⟩
            · refine Or.inl ⟨show inr ((f1 (fv 79 22) 0) + 1) from by constructor <;> omega, ?_⟩
              have q2 : (wv f1 (fv 79 22) 0 ((f1 (fv 79 22) 0) + 1)) (fv 79 22) 0 = ((f1 (fv 79 22) 0) + 1) := rfl
              refine hB (1900 - ((wv f1 (fv 79 22) 0 ((f1 (fv 79 22) 0) + 1)) (fv 79 22) 0) : Int).toNat ?_ (Or.inl ⟨rfl, (wv f1 (fv 79 22) 0 ((f1 (fv 79 22) 0) + 1)), rfl, rfl, (mx_wv rfl rfl), rfl, ?_, ?_, ?_⟩)
              · omega
              · constructor <;> (show _ ≤ _; first | (show 0 ≤ f1 (fv 79 22) 0 + 1; omega) | (show f1 (fv 79 22) 0 + 1 ≤ _; omega))
              · rw [← hsk0]; exact (skp_t (by omega) (by omega)).symm
              · omega
            · have hsk : f1 (fv 79 22) 0 = skp (f 92) (f (fv 79 21) 0) (f (fv 79 22) 0) := by rw [← hsk0]; exact (wlk_f (fun q => by have q2 := blk_t.mp q.2; omega)).symm
              refine hO (c_raw (by omega) (show 0 ≤ (f1 (fv 79 22) 0) from by omega) (show (f (fv 79 21) 0) ≤ 400 from by omega) (fun (hh_7 : (f1 (fv 79 22) 0) < (f (fv 79 21) 0)) => ?_) (fun (hh_8 : ¬ (f1 (fv 79 22) 0) < (f (fv 79 21) 0)) => ?_))
              · have hsl : f1 (fv 79 22) 0 < f (fv 79 21) 0 := hh_7
                have hcb := htp.2 (f1 (fv 79 22) 0) hs.1 hsl
                refine ⟨fun (hh_9 : (f 92 (f1 (fv 79 22) 0)) = (-1)) => ?_, fun (hh_9 : ¬ (f 92 (f1 (fv 79 22) 0)) = (-1)) => ?_⟩
                · have hge : ¬ f1 (fv 79 22) 0 < f (fv 79 21) 0 := by omega
                  have hk := k0 ((wv (wv (wv f1 (fv 79 23) 0 (f1 (fv 79 22) 0)) (fv 79 24) 0 1) (fv 79 24) 0 0)) hsk (by show f1 (fv 79 22) 0 = spP _ _ (f1 (fv 79 22) 0); unfold spP; rw [if_neg hge]) (by show tvP (kdP _ _ (f1 (fv 79 22) 0)) 0 _; unfold kdP; rw [if_neg hge]; exact Or.inl ⟨rfl, rfl⟩)
                  rw [show mx [fv 79 22, fv 79 23, fv 79 24, fv 79 25] f (wv (wv (wv f1 (fv 79 23) 0 (f1 (fv 79 22) 0)) (fv 79 24) 0 1) (fv 79 24) 0 0) = (wv (wv (wv (mx [fv 79 22, fv 79 23, fv 79 24, fv 79 25] f f1) (fv 79 23) 0 (f1 (fv 79 22) 0)) (fv 79 24) 0 1) (fv 79 24) 0 0) from ((mx_wv rfl (mx_wv rfl (mx_wv rfl rfl)))).symm] at hk
                  exact hk
                · refine Or.inl ⟨show inr ((f1 (fv 79 22) 0) + 1) from by constructor <;> omega, ?_⟩
                  refine hO (c_isLetter (by omega) (fun (hh_10 : (97 ≤ (f 92 (f1 (fv 79 22) 0)) ∧ (f 92 (f1 (fv 79 22) 0)) ≤ 122 ∨ 65 ≤ (f 92 (f1 (fv 79 22) 0)) ∧ (f 92 (f1 (fv 79 22) 0)) ≤ 90)) => ?_) (fun (hh_11 : ¬ ((97 ≤ (f 92 (f1 (fv 79 22) 0)) ∧ (f 92 (f1 (fv 79 22) 0)) ≤ 122 ∨ 65 ≤ (f 92 (f1 (fv 79 22) 0)) ∧ (f 92 (f1 (fv 79 22) 0)) ≤ 90))) => ?_))
                  · have hlt : ltr (f 92 (f1 (fv 79 22) 0)) = true := ltr_t.mpr hh_10
                    refine ⟨fun h => absurd (show (1 : Int) = 0 from h) (by decide), fun _ => ?_⟩
                    have q2 : (wv (wv (wv (wv f1 (fv 79 23) 0 (f1 (fv 79 22) 0)) (fv 79 24) 0 1) (fv 79 22) 0 ((f1 (fv 79 22) 0) + 1)) (fv 79 25) 0 (f 92 (f1 (fv 79 22) 0))) (fv 79 22) 0 = ((f1 (fv 79 22) 0) + 1) := rfl
                    refine hF (900 - ((wv (wv (wv (wv f1 (fv 79 23) 0 (f1 (fv 79 22) 0)) (fv 79 24) 0 1) (fv 79 22) 0 ((f1 (fv 79 22) 0) + 1)) (fv 79 25) 0 (f 92 (f1 (fv 79 22) 0))) (fv 79 22) 0) : Int).toNat ?_ (Or.inr (Or.inl ⟨rfl, (f 92 (f1 (fv 79 22) 0)), (wv (wv (wv (wv f1 (fv 79 23) 0 (f1 (fv 79 22) 0)) (fv 79 24) 0 1) (fv 79 22) 0 ((f1 (fv 79 22) 0) + 1)) (fv 79 25) 0 (f 92 (f1 (fv 79 22) 0))), rfl, rfl, (mx_wv rfl (mx_wv rfl (mx_wv rfl (mx_wv rfl rfl)))), rfl, ?_, ?_, ?_, ?_, ?_, ?_, ?_⟩))
                    · omega
                    · exact ⟨hsk, by show 0 ≤ f1 (fv 79 22) 0; omega, by show f1 (fv 79 22) 0 < _; omega⟩
                    · rfl
                    · exact ⟨by show f1 (fv 79 22) 0 + 1 ≤ f1 (fv 79 22) 0 + 1; omega, by show f1 (fv 79 22) 0 + 1 ≤ _; omega⟩
                    · exact hlt
                    · show ent (f 92) (f (fv 79 21) 0) (f1 (fv 79 22) 0) = wlk _ _ (f1 (fv 79 22) 0 + 1); unfold ent; rw [if_pos hlt]
                    · intro x (h0 : f1 (fv 79 22) 0 ≤ x) (h1 : x < f1 (fv 79 22) 0 + 1)
                      rw [show x = f1 (fv 79 22) 0 by omega]; exact hlt
                    · omega
                  · have hlt : ¬ ltr (f 92 (f1 (fv 79 22) 0)) = true := fun q => hh_11 (ltr_t.mp q)
                    refine ⟨fun _ => ?_, fun h => absurd (show (0 : Int) = 0 from by decide) h⟩
                    refine hO (c_isDigit (by omega) (fun (hh_12 : 48 ≤ (f 92 (f1 (fv 79 22) 0))) (hh_13 : (f 92 (f1 (fv 79 22) 0)) ≤ 57) => ?_) (fun (hh_14 : ¬ (48 ≤ (f 92 (f1 (fv 79 22) 0)) ∧ (f 92 (f1 (fv 79 22) 0)) ≤ 57)) => ?_))
                    · have hdg : dgt (f 92 (f1 (fv 79 22) 0)) = true := dgt_t.mpr ⟨hh_12, hh_13⟩
                      refine ⟨fun h => absurd (show (1 : Int) = 0 from h) (by decide), fun _ => ?_⟩
                      refine Or.inl ⟨show inr ((f 92 (f1 (fv 79 22) 0)) - 48) from by constructor <;> omega, ?_⟩
                      have q2 : (wv (wv (wv (wv (wv f1 (fv 79 23) 0 (f1 (fv 79 22) 0)) (fv 79 24) 0 1) (fv 79 22) 0 ((f1 (fv 79 22) 0) + 1)) (fv 79 25) 0 (f 92 (f1 (fv 79 22) 0))) (fv 79 25) 0 ((f 92 (f1 (fv 79 22) 0)) - 48)) (fv 79 22) 0 = ((f1 (fv 79 22) 0) + 1) := rfl
                      refine hF (900 - ((wv (wv (wv (wv (wv f1 (fv 79 23) 0 (f1 (fv 79 22) 0)) (fv 79 24) 0 1) (fv 79 22) 0 ((f1 (fv 79 22) 0) + 1)) (fv 79 25) 0 (f 92 (f1 (fv 79 22) 0))) (fv 79 25) 0 ((f 92 (f1 (fv 79 22) 0)) - 48)) (fv 79 22) 0) : Int).toNat ?_ (Or.inr (Or.inr (⟨rfl, (f 92 (f1 (fv 79 22) 0)), (wv (wv (wv (wv (wv f1 (fv 79 23) 0 (f1 (fv 79 22) 0)) (fv 79 24) 0 1) (fv 79 22) 0 ((f1 (fv 79 22) 0) + 1)) (fv 79 25) 0 (f 92 (f1 (fv 79 22) 0))) (fv 79 25) 0 ((f 92 (f1 (fv 79 22) 0)) - 48)), rfl, rfl, (mx_wv rfl (mx_wv rfl (mx_wv rfl (mx_wv rfl (mx_wv rfl rfl))))), rfl, ?_, ?_, ?_, ?_, ?_, ?_, ?_, ?_, ?_⟩)))
                      · omega
                      · exact ⟨hsk, by show 0 ≤ f1 (fv 79 22) 0; omega, by show f1 (fv 79 22) 0 < _; omega⟩
                      · rfl
                      · exact ⟨by show f1 (fv 79 22) 0 + 1 ≤ f1 (fv 79 22) 0 + 1; omega, by show f1 (fv 79 22) 0 + 1 ≤ _; omega⟩
                      · exact hlt
                      · exact hdg
                      · show ent (f 92) (f (fv 79 21) 0) (f1 (fv 79 22) 0) = wlk _ _ (f1 (fv 79 22) 0 + 1); unfold ent; rw [if_neg hlt, if_pos hdg]
                      · intro x (h0 : f1 (fv 79 22) 0 ≤ x) (h1 : x < f1 (fv 79 22) 0 + 1)
                        rw [show x = f1 (fv 79 22) 0 by omega]; exact hdg
                      · have hd9 := dgt_t.mp hdg
                        refine ⟨?_, ?_, fun _ => ?_⟩
                        · show 0 ≤ f 92 (f1 (fv 79 22) 0) - 48; omega
                        · show f 92 (f1 (fv 79 22) 0) - 48 < 100000; omega
                        · show f 92 (f1 (fv 79 22) 0) - 48 = vlI (f 92) (f1 (fv 79 22) 0) (f1 (fv 79 22) 0 + 1); rw [vlI_s (by omega), vlI_0]; omega
                      · omega
                    · have hdg : ¬ dgt (f 92 (f1 (fv 79 22) 0)) = true := fun q => hh_14 (dgt_t.mp q)
                      refine ⟨fun _ => ?_, fun h => absurd (show (0 : Int) = 0 from by decide) h⟩
                      refine hO (c_isMark (by omega) (fun (hh_15 : ((f 92 (f1 (fv 79 22) 0)) = 59 ∨ (f 92 (f1 (fv 79 22) 0)) = 43 ∨ (f 92 (f1 (fv 79 22) 0)) = 45 ∨ (f 92 (f1 (fv 79 22) 0)) = 42 ∨ (f 92 (f1 (fv 79 22) 0)) = 47 ∨ (f 92 (f1 (fv 79 22) 0)) = 40 ∨ (f 92 (f1 (fv 79 22) 0)) = 41 ∨ (f 92 (f1 (fv 79 22) 0)) = 60 ∨ (f 92 (f1 (fv 79 22) 0)) = 61 ∨ (f 92 (f1 (fv 79 22) 0)) = 62)) => ?_) (fun (hh_16 : ¬ (((f 92 (f1 (fv 79 22) 0)) = 59 ∨ (f 92 (f1 (fv 79 22) 0)) = 43 ∨ (f 92 (f1 (fv 79 22) 0)) = 45 ∨ (f 92 (f1 (fv 79 22) 0)) = 42 ∨ (f 92 (f1 (fv 79 22) 0)) = 47 ∨ (f 92 (f1 (fv 79 22) 0)) = 40 ∨ (f 92 (f1 (fv 79 22) 0)) = 41 ∨ (f 92 (f1 (fv 79 22) 0)) = 60 ∨ (f 92 (f1 (fv 79 22) 0)) = 61 ∨ (f 92 (f1 (fv 79 22) 0)) = 62))) => ?_))
                      · have hmk : mrk (f 92 (f1 (fv 79 22) 0)) = true := mrk_t.mpr hh_15
                        refine ⟨fun h => absurd (show (1 : Int) = 0 from h) (by decide), fun _ => ?_⟩
                        have hent : ent (f 92) (f (fv 79 21) 0) (f1 (fv 79 22) 0) = f1 (fv 79 22) 0 + 1 := by unfold ent; rw [if_neg hlt, if_neg hdg]
                        have hk := k0 ((wv (wv (wv (wv (wv f1 (fv 79 23) 0 (f1 (fv 79 22) 0)) (fv 79 24) 0 1) (fv 79 22) 0 ((f1 (fv 79 22) 0) + 1)) (fv 79 25) 0 (f 92 (f1 (fv 79 22) 0))) (fv 79 24) 0 4)) hsk (by show f1 (fv 79 22) 0 + 1 = spP _ _ (f1 (fv 79 22) 0); unfold spP; rw [if_pos hsl, hent]) (by show tvP (kdP _ _ (f1 (fv 79 22) 0)) _ _; unfold kdP; rw [if_pos hsl, hent]; unfold kdI; rw [if_neg hlt, if_neg hdg]; first | (rw [if_pos hmk]; exact Or.inr (Or.inr (Or.inr (Or.inr ⟨by have := mrk_t.mp hmk; omega, by have := mrk_t.mp hmk; omega, rfl, rfl⟩)))) | (rw [if_neg hmk]; exact Or.inr (Or.inl ⟨rfl, rfl⟩)))
                        rw [show mx [fv 79 22, fv 79 23, fv 79 24, fv 79 25] f (wv (wv (wv (wv (wv f1 (fv 79 23) 0 (f1 (fv 79 22) 0)) (fv 79 24) 0 1) (fv 79 22) 0 ((f1 (fv 79 22) 0) + 1)) (fv 79 25) 0 (f 92 (f1 (fv 79 22) 0))) (fv 79 24) 0 4) = (wv (wv (wv (wv (wv (mx [fv 79 22, fv 79 23, fv 79 24, fv 79 25] f f1) (fv 79 23) 0 (f1 (fv 79 22) 0)) (fv 79 24) 0 1) (fv 79 22) 0 ((f1 (fv 79 22) 0) + 1)) (fv 79 25) 0 (f 92 (f1 (fv 79 22) 0))) (fv 79 24) 0 4) from ((mx_wv rfl (mx_wv rfl (mx_wv rfl (mx_wv rfl (mx_wv rfl rfl)))))).symm] at hk
                        exact hk
                      · have hmk : ¬ mrk (f 92 (f1 (fv 79 22) 0)) = true := fun q => hh_16 (mrk_t.mp q)
                        refine ⟨fun _ => ?_, fun h => absurd (show (0 : Int) = 0 from by decide) h⟩
                        have hent : ent (f 92) (f (fv 79 21) 0) (f1 (fv 79 22) 0) = f1 (fv 79 22) 0 + 1 := by unfold ent; rw [if_neg hlt, if_neg hdg]
                        have hk := k0 ((wv (wv (wv (wv f1 (fv 79 23) 0 (f1 (fv 79 22) 0)) (fv 79 24) 0 1) (fv 79 22) 0 ((f1 (fv 79 22) 0) + 1)) (fv 79 25) 0 (f 92 (f1 (fv 79 22) 0)))) hsk (by show f1 (fv 79 22) 0 + 1 = spP _ _ (f1 (fv 79 22) 0); unfold spP; rw [if_pos hsl, hent]) (by show tvP (kdP _ _ (f1 (fv 79 22) 0)) _ _; unfold kdP; rw [if_pos hsl, hent]; unfold kdI; rw [if_neg hlt, if_neg hdg]; first | (rw [if_pos hmk]; exact Or.inr (Or.inr (Or.inr (Or.inr ⟨by have := mrk_t.mp hmk; omega, by have := mrk_t.mp hmk; omega, rfl, rfl⟩)))) | (rw [if_neg hmk]; exact Or.inr (Or.inl ⟨rfl, rfl⟩)))
                        rw [show mx [fv 79 22, fv 79 23, fv 79 24, fv 79 25] f (wv (wv (wv (wv f1 (fv 79 23) 0 (f1 (fv 79 22) 0)) (fv 79 24) 0 1) (fv 79 22) 0 ((f1 (fv 79 22) 0) + 1)) (fv 79 25) 0 (f 92 (f1 (fv 79 22) 0))) = (wv (wv (wv (wv (mx [fv 79 22, fv 79 23, fv 79 24, fv 79 25] f f1) (fv 79 23) 0 (f1 (fv 79 22) 0)) (fv 79 24) 0 1) (fv 79 22) 0 ((f1 (fv 79 22) 0) + 1)) (fv 79 25) 0 (f 92 (f1 (fv 79 22) 0))) from ((mx_wv rfl (mx_wv rfl (mx_wv rfl (mx_wv rfl rfl))))).symm] at hk
                        exact hk
              · refine ⟨fun _ => ?_, fun h => absurd (show ((-1) : Int) = (-1) from by decide) h⟩
                have hge : ¬ f1 (fv 79 22) 0 < f (fv 79 21) 0 := by omega
                have hk := k0 ((wv (wv (wv f1 (fv 79 23) 0 (f1 (fv 79 22) 0)) (fv 79 24) 0 1) (fv 79 24) 0 0)) hsk (by show f1 (fv 79 22) 0 = spP _ _ (f1 (fv 79 22) 0); unfold spP; rw [if_neg hge]) (by show tvP (kdP _ _ (f1 (fv 79 22) 0)) 0 _; unfold kdP; rw [if_neg hge]; exact Or.inl ⟨rfl, rfl⟩)
                rw [show mx [fv 79 22, fv 79 23, fv 79 24, fv 79 25] f (wv (wv (wv f1 (fv 79 23) 0 (f1 (fv 79 22) 0)) (fv 79 24) 0 1) (fv 79 24) 0 0) = (wv (wv (wv (mx [fv 79 22, fv 79 23, fv 79 24, fv 79 25] f f1) (fv 79 23) 0 (f1 (fv 79 22) 0)) (fv 79 24) 0 1) (fv 79 24) 0 0) from ((mx_wv rfl (mx_wv rfl (mx_wv rfl rfl)))).symm] at hk
                exact hk
          · refine ⟨fun h => absurd (show ((-1) : Int) = 10 from h) (by decide), fun _ => ?_⟩
            have hsk : f1 (fv 79 22) 0 = skp (f 92) (f (fv 79 21) 0) (f (fv 79 22) 0) := by rw [← hsk0]; exact (wlk_f (fun q => by have q2 := blk_t.mp q.2; omega)).symm
            refine hO (c_raw (by omega) (show 0 ≤ (f1 (fv 79 22) 0) from by omega) (show (f (fv 79 21) 0) ≤ 400 from by omega) (fun (hh_17 : (f1 (fv 79 22) 0) < (f (fv 79 21) 0)) => ?_) (fun (hh_18 : ¬ (f1 (fv 79 22) 0) < (f (fv 79 21) 0)) => ?_))
            · have hsl : f1 (fv 79 22) 0 < f (fv 79 21) 0 := hh_17
              have hcb := htp.2 (f1 (fv 79 22) 0) hs.1 hsl
              refine ⟨fun (hh_19 : (f 92 (f1 (fv 79 22) 0)) = (-1)) => ?_, fun (hh_19 : ¬ (f 92 (f1 (fv 79 22) 0)) = (-1)) => ?_⟩
              · have hge : ¬ f1 (fv 79 22) 0 < f (fv 79 21) 0 := by omega
                have hk := k0 ((wv (wv (wv f1 (fv 79 23) 0 (f1 (fv 79 22) 0)) (fv 79 24) 0 1) (fv 79 24) 0 0)) hsk (by show f1 (fv 79 22) 0 = spP _ _ (f1 (fv 79 22) 0); unfold spP; rw [if_neg hge]) (by show tvP (kdP _ _ (f1 (fv 79 22) 0)) 0 _; unfold kdP; rw [if_neg hge]; exact Or.inl ⟨rfl, rfl⟩)
                rw [show mx [fv 79 22, fv 79 23, fv 79 24, fv 79 25] f (wv (wv (wv f1 (fv 79 23) 0 (f1 (fv 79 22) 0)) (fv 79 24) 0 1) (fv 79 24) 0 0) = (wv (wv (wv (mx [fv 79 22, fv 79 23, fv 79 24, fv 79 25] f f1) (fv 79 23) 0 (f1 (fv 79 22) 0)) (fv 79 24) 0 1) (fv 79 24) 0 0) from ((mx_wv rfl (mx_wv rfl (mx_wv rfl rfl)))).symm] at hk
                exact hk
              · refine Or.inl ⟨show inr ((f1 (fv 79 22) 0) + 1) from by constructor <;> omega, ?_⟩
                refine hO (c_isLetter (by omega) (fun (hh_20 : (97 ≤ (f 92 (f1 (fv 79 22) 0)) ∧ (f 92 (f1 (fv 79 22) 0)) ≤ 122 ∨ 65 ≤ (f 92 (f1 (fv 79 22) 0)) ∧ (f 92 (f1 (fv 79 22) 0)) ≤ 90)) => ?_) (fun (hh_21 : ¬ ((97 ≤ (f 92 (f1 (fv 79 22) 0)) ∧ (f 92 (f1 (fv 79 22) 0)) ≤ 122 ∨ 65 ≤ (f 92 (f1 (fv 79 22) 0)) ∧ (f 92 (f1 (fv 79 22) 0)) ≤ 90))) => ?_))
                · have hlt : ltr (f 92 (f1 (fv 79 22) 0)) = true := ltr_t.mpr hh_20
                  refine ⟨fun h => absurd (show (1 : Int) = 0 from h) (by decide), fun _ => ?_⟩
                  have q2 : (wv (wv (wv (wv f1 (fv 79 23) 0 (f1 (fv 79 22) 0)) (fv 79 24) 0 1) (fv 79 22) 0 ((f1 (fv 79 22) 0) + 1)) (fv 79 25) 0 (f 92 (f1 (fv 79 22) 0))) (fv 79 22) 0 = ((f1 (fv 79 22) 0) + 1) := rfl
                  refine hF (900 - ((wv (wv (wv (wv f1 (fv 79 23) 0 (f1 (fv 79 22) 0)) (fv 79 24) 0 1) (fv 79 22) 0 ((f1 (fv 79 22) 0) + 1)) (fv 79 25) 0 (f 92 (f1 (fv 79 22) 0))) (fv 79 22) 0) : Int).toNat ?_ (Or.inr (Or.inl ⟨rfl, (f 92 (f1 (fv 79 22) 0)), (wv (wv (wv (wv f1 (fv 79 23) 0 (f1 (fv 79 22) 0)) (fv 79 24) 0 1) (fv 79 22) 0 ((f1 (fv 79 22) 0) + 1)) (fv 79 25) 0 (f 92 (f1 (fv 79 22) 0))), rfl, rfl, (mx_wv rfl (mx_wv rfl (mx_wv rfl (mx_wv rfl rfl)))), rfl, ?_, ?_, ?_, ?_, ?_, ?_, ?_⟩))
                  · omega
                  · exact ⟨hsk, by show 0 ≤ f1 (fv 79 22) 0; omega, by show f1 (fv 79 22) 0 < _; omega⟩
                  · rfl
                  · exact ⟨by show f1 (fv 79 22) 0 + 1 ≤ f1 (fv 79 22) 0 + 1; omega, by show f1 (fv 79 22) 0 + 1 ≤ _; omega⟩
                  · exact hlt
                  · show ent (f 92) (f (fv 79 21) 0) (f1 (fv 79 22) 0) = wlk _ _ (f1 (fv 79 22) 0 + 1); unfold ent; rw [if_pos hlt]
                  · intro x (h0 : f1 (fv 79 22) 0 ≤ x) (h1 : x < f1 (fv 79 22) 0 + 1)
                    rw [show x = f1 (fv 79 22) 0 by omega]; exact hlt
                  · omega
                · have hlt : ¬ ltr (f 92 (f1 (fv 79 22) 0)) = true := fun q => hh_21 (ltr_t.mp q)
                  refine ⟨fun _ => ?_, fun h => absurd (show (0 : Int) = 0 from by decide) h⟩
                  refine hO (c_isDigit (by omega) (fun (hh_22 : 48 ≤ (f 92 (f1 (fv 79 22) 0))) (hh_23 : (f 92 (f1 (fv 79 22) 0)) ≤ 57) => ?_) (fun (hh_24 : ¬ (48 ≤ (f 92 (f1 (fv 79 22) 0)) ∧ (f 92 (f1 (fv 79 22) 0)) ≤ 57)) => ?_))
                  · have hdg : dgt (f 92 (f1 (fv 79 22) 0)) = true := dgt_t.mpr ⟨hh_22, hh_23⟩
                    refine ⟨fun h => absurd (show (1 : Int) = 0 from h) (by decide), fun _ => ?_⟩
                    refine Or.inl ⟨show inr ((f 92 (f1 (fv 79 22) 0)) - 48) from by constructor <;> omega, ?_⟩
                    have q2 : (wv (wv (wv (wv (wv f1 (fv 79 23) 0 (f1 (fv 79 22) 0)) (fv 79 24) 0 1) (fv 79 22) 0 ((f1 (fv 79 22) 0) + 1)) (fv 79 25) 0 (f 92 (f1 (fv 79 22) 0))) (fv 79 25) 0 ((f 92 (f1 (fv 79 22) 0)) - 48)) (fv 79 22) 0 = ((f1 (fv 79 22) 0) + 1) := rfl
                    refine hF (900 - ((wv (wv (wv (wv (wv f1 (fv 79 23) 0 (f1 (fv 79 22) 0)) (fv 79 24) 0 1) (fv 79 22) 0 ((f1 (fv 79 22) 0) + 1)) (fv 79 25) 0 (f 92 (f1 (fv 79 22) 0))) (fv 79 25) 0 ((f 92 (f1 (fv 79 22) 0)) - 48)) (fv 79 22) 0) : Int).toNat ?_ (Or.inr (Or.inr (⟨rfl, (f 92 (f1 (fv 79 22) 0)), (wv (wv (wv (wv (wv f1 (fv 79 23) 0 (f1 (fv 79 22) 0)) (fv 79 24) 0 1) (fv 79 22) 0 ((f1 (fv 79 22) 0) + 1)) (fv 79 25) 0 (f 92 (f1 (fv 79 22) 0))) (fv 79 25) 0 ((f 92 (f1 (fv 79 22) 0)) - 48)), rfl, rfl, (mx_wv rfl (mx_wv rfl (mx_wv rfl (mx_wv rfl (mx_wv rfl rfl))))), rfl, ?_, ?_, ?_, ?_, ?_, ?_, ?_, ?_, ?_⟩)))
                    · omega
                    · exact ⟨hsk, by show 0 ≤ f1 (fv 79 22) 0; omega, by show f1 (fv 79 22) 0 < _; omega⟩
                    · rfl
                    · exact ⟨by show f1 (fv 79 22) 0 + 1 ≤ f1 (fv 79 22) 0 + 1; omega, by show f1 (fv 79 22) 0 + 1 ≤ _; omega⟩
                    · exact hlt
                    · exact hdg
                    · show ent (f 92) (f (fv 79 21) 0) (f1 (fv 79 22) 0) = wlk _ _ (f1 (fv 79 22) 0 + 1); unfold ent; rw [if_neg hlt, if_pos hdg]
                    · intro x (h0 : f1 (fv 79 22) 0 ≤ x) (h1 : x < f1 (fv 79 22) 0 + 1)
                      rw [show x = f1 (fv 79 22) 0 by omega]; exact hdg
                    · have hd9 := dgt_t.mp hdg
                      refine ⟨?_, ?_, fun _ => ?_⟩
                      · show 0 ≤ f 92 (f1 (fv 79 22) 0) - 48; omega
                      · show f 92 (f1 (fv 79 22) 0) - 48 < 100000; omega
                      · show f 92 (f1 (fv 79 22) 0) - 48 = vlI (f 92) (f1 (fv 79 22) 0) (f1 (fv 79 22) 0 + 1); rw [vlI_s (by omega), vlI_0]; omega
                    · omega
                  · have hdg : ¬ dgt (f 92 (f1 (fv 79 22) 0)) = true := fun q => hh_24 (dgt_t.mp q)
                    refine ⟨fun _ => ?_, fun h => absurd (show (0 : Int) = 0 from by decide) h⟩
                    refine hO (c_isMark (by omega) (fun (hh_25 : ((f 92 (f1 (fv 79 22) 0)) = 59 ∨ (f 92 (f1 (fv 79 22) 0)) = 43 ∨ (f 92 (f1 (fv 79 22) 0)) = 45 ∨ (f 92 (f1 (fv 79 22) 0)) = 42 ∨ (f 92 (f1 (fv 79 22) 0)) = 47 ∨ (f 92 (f1 (fv 79 22) 0)) = 40 ∨ (f 92 (f1 (fv 79 22) 0)) = 41 ∨ (f 92 (f1 (fv 79 22) 0)) = 60 ∨ (f 92 (f1 (fv 79 22) 0)) = 61 ∨ (f 92 (f1 (fv 79 22) 0)) = 62)) => ?_) (fun (hh_26 : ¬ (((f 92 (f1 (fv 79 22) 0)) = 59 ∨ (f 92 (f1 (fv 79 22) 0)) = 43 ∨ (f 92 (f1 (fv 79 22) 0)) = 45 ∨ (f 92 (f1 (fv 79 22) 0)) = 42 ∨ (f 92 (f1 (fv 79 22) 0)) = 47 ∨ (f 92 (f1 (fv 79 22) 0)) = 40 ∨ (f 92 (f1 (fv 79 22) 0)) = 41 ∨ (f 92 (f1 (fv 79 22) 0)) = 60 ∨ (f 92 (f1 (fv 79 22) 0)) = 61 ∨ (f 92 (f1 (fv 79 22) 0)) = 62))) => ?_))
                    · have hmk : mrk (f 92 (f1 (fv 79 22) 0)) = true := mrk_t.mpr hh_25
                      refine ⟨fun h => absurd (show (1 : Int) = 0 from h) (by decide), fun _ => ?_⟩
                      have hent : ent (f 92) (f (fv 79 21) 0) (f1 (fv 79 22) 0) = f1 (fv 79 22) 0 + 1 := by unfold ent; rw [if_neg hlt, if_neg hdg]
                      have hk := k0 ((wv (wv (wv (wv (wv f1 (fv 79 23) 0 (f1 (fv 79 22) 0)) (fv 79 24) 0 1) (fv 79 22) 0 ((f1 (fv 79 22) 0) + 1)) (fv 79 25) 0 (f 92 (f1 (fv 79 22) 0))) (fv 79 24) 0 4)) hsk (by show f1 (fv 79 22) 0 + 1 = spP _ _ (f1 (fv 79 22) 0); unfold spP; rw [if_pos hsl, hent]) (by show tvP (kdP _ _ (f1 (fv 79 22) 0)) _ _; unfold kdP; rw [if_pos hsl, hent]; unfold kdI; rw [if_neg hlt, if_neg hdg]; first | (rw [if_pos hmk]; exact Or.inr (Or.inr (Or.inr (Or.inr ⟨by have := mrk_t.mp hmk; omega, by have := mrk_t.mp hmk; omega, rfl, rfl⟩)))) | (rw [if_neg hmk]; exact Or.inr (Or.inl ⟨rfl, rfl⟩)))
                      rw [show mx [fv 79 22, fv 79 23, fv 79 24, fv 79 25] f (wv (wv (wv (wv (wv f1 (fv 79 23) 0 (f1 (fv 79 22) 0)) (fv 79 24) 0 1) (fv 79 22) 0 ((f1 (fv 79 22) 0) + 1)) (fv 79 25) 0 (f 92 (f1 (fv 79 22) 0))) (fv 79 24) 0 4) = (wv (wv (wv (wv (wv (mx [fv 79 22, fv 79 23, fv 79 24, fv 79 25] f f1) (fv 79 23) 0 (f1 (fv 79 22) 0)) (fv 79 24) 0 1) (fv 79 22) 0 ((f1 (fv 79 22) 0) + 1)) (fv 79 25) 0 (f 92 (f1 (fv 79 22) 0))) (fv 79 24) 0 4) from ((mx_wv rfl (mx_wv rfl (mx_wv rfl (mx_wv rfl (mx_wv rfl rfl)))))).symm] at hk
                      exact hk
                    · have hmk : ¬ mrk (f 92 (f1 (fv 79 22) 0)) = true := fun q => hh_26 (mrk_t.mp q)
                      refine ⟨fun _ => ?_, fun h => absurd (show (0 : Int) = 0 from by decide) h⟩
                      have hent : ent (f 92) (f (fv 79 21) 0) (f1 (fv 79 22) 0) = f1 (fv 79 22) 0 + 1 := by unfold ent; rw [if_neg hlt, if_neg hdg]
                      have hk := k0 ((wv (wv (wv (wv f1 (fv 79 23) 0 (f1 (fv 79 22) 0)) (fv 79 24) 0 1) (fv 79 22) 0 ((f1 (fv 79 22) 0) + 1)) (fv 79 25) 0 (f 92 (f1 (fv 79 22) 0)))) hsk (by show f1 (fv 79 22) 0 + 1 = spP _ _ (f1 (fv 79 22) 0); unfold spP; rw [if_pos hsl, hent]) (by show tvP (kdP _ _ (f1 (fv 79 22) 0)) _ _; unfold kdP; rw [if_pos hsl, hent]; unfold kdI; rw [if_neg hlt, if_neg hdg]; first | (rw [if_pos hmk]; exact Or.inr (Or.inr (Or.inr (Or.inr ⟨by have := mrk_t.mp hmk; omega, by have := mrk_t.mp hmk; omega, rfl, rfl⟩)))) | (rw [if_neg hmk]; exact Or.inr (Or.inl ⟨rfl, rfl⟩)))
                      rw [show mx [fv 79 22, fv 79 23, fv 79 24, fv 79 25] f (wv (wv (wv (wv f1 (fv 79 23) 0 (f1 (fv 79 22) 0)) (fv 79 24) 0 1) (fv 79 22) 0 ((f1 (fv 79 22) 0) + 1)) (fv 79 25) 0 (f 92 (f1 (fv 79 22) 0))) = (wv (wv (wv (wv (mx [fv 79 22, fv 79 23, fv 79 24, fv 79 25] f f1) (fv 79 23) 0 (f1 (fv 79 22) 0)) (fv 79 24) 0 1) (fv 79 22) 0 ((f1 (fv 79 22) 0) + 1)) (fv 79 25) 0 (f 92 (f1 (fv 79 22) 0))) from ((mx_wv rfl (mx_wv rfl (mx_wv rfl (mx_wv rfl rfl))))).symm] at hk
                      exact hk
            · refine ⟨fun _ => ?_, fun h => absurd (show ((-1) : Int) = (-1) from by decide) h⟩
              have hge : ¬ f1 (fv 79 22) 0 < f (fv 79 21) 0 := by omega
              have hk := k0 ((wv (wv (wv f1 (fv 79 23) 0 (f1 (fv 79 22) 0)) (fv 79 24) 0 1) (fv 79 24) 0 0)) hsk (by show f1 (fv 79 22) 0 = spP _ _ (f1 (fv 79 22) 0); unfold spP; rw [if_neg hge]) (by show tvP (kdP _ _ (f1 (fv 79 22) 0)) 0 _; unfold kdP; rw [if_neg hge]; exact Or.inl ⟨rfl, rfl⟩)
              rw [show mx [fv 79 22, fv 79 23, fv 79 24, fv 79 25] f (wv (wv (wv f1 (fv 79 23) 0 (f1 (fv 79 22) 0)) (fv 79 24) 0 1) (fv 79 24) 0 0) = (wv (wv (wv (mx [fv 79 22, fv 79 23, fv 79 24, fv 79 25] f f1) (fv 79 23) 0 (f1 (fv 79 22) 0)) (fv 79 24) 0 1) (fv 79 24) 0 0) from ((mx_wv rfl (mx_wv rfl (mx_wv rfl rfl)))).symm] at hk
              exact hk
      · refine ⟨fun h => absurd (show ((-1) : Int) = 32 from h) (by decide), fun _ => ?_⟩
        refine hO (c_raw (by omega) (show 0 ≤ (f1 (fv 79 22) 0) from by omega) (show (f (fv 79 21) 0) ≤ 400 from by omega) (fun (hh_27 : (f1 (fv 79 22) 0) < (f (fv 79 21) 0)) => ?_) (fun (hh_28 : ¬ (f1 (fv 79 22) 0) < (f (fv 79 21) 0)) => ?_))
        · refine ⟨fun (hh_29 : (f 92 (f1 (fv 79 22) 0)) = 10) => ?_, fun (hh_29 : ¬ (f 92 (f1 (fv 79 22) 0)) = 10) => ?_⟩
          · refine Or.inl ⟨show inr ((f1 (fv 79 22) 0) + 1) from by constructor <;> omega, ?_⟩
            have q2 : (wv f1 (fv 79 22) 0 ((f1 (fv 79 22) 0) + 1)) (fv 79 22) 0 = ((f1 (fv 79 22) 0) + 1) := rfl
            refine hB (1900 - ((wv f1 (fv 79 22) 0 ((f1 (fv 79 22) 0) + 1)) (fv 79 22) 0) : Int).toNat ?_ (Or.inl ⟨rfl, (wv f1 (fv 79 22) 0 ((f1 (fv 79 22) 0) + 1)), rfl, rfl, (mx_wv rfl rfl), rfl, ?_, ?_, ?_⟩)
            · omega
            · constructor <;> (show _ ≤ _; first | (show 0 ≤ f1 (fv 79 22) 0 + 1; omega) | (show f1 (fv 79 22) 0 + 1 ≤ _; omega))
            · rw [← hsk0]; exact (skp_t (by omega) (by omega)).symm
            · omega
          · have hsk : f1 (fv 79 22) 0 = skp (f 92) (f (fv 79 21) 0) (f (fv 79 22) 0) := by rw [← hsk0]; exact (wlk_f (fun q => by have q2 := blk_t.mp q.2; omega)).symm
            refine hO (c_raw (by omega) (show 0 ≤ (f1 (fv 79 22) 0) from by omega) (show (f (fv 79 21) 0) ≤ 400 from by omega) (fun (hh_30 : (f1 (fv 79 22) 0) < (f (fv 79 21) 0)) => ?_) (fun (hh_31 : ¬ (f1 (fv 79 22) 0) < (f (fv 79 21) 0)) => ?_))
            · have hsl : f1 (fv 79 22) 0 < f (fv 79 21) 0 := hh_30
              have hcb := htp.2 (f1 (fv 79 22) 0) hs.1 hsl
              refine ⟨fun (hh_32 : (f 92 (f1 (fv 79 22) 0)) = (-1)) => ?_, fun (hh_32 : ¬ (f 92 (f1 (fv 79 22) 0)) = (-1)) => ?_⟩
              · have hge : ¬ f1 (fv 79 22) 0 < f (fv 79 21) 0 := by omega
                have hk := k0 ((wv (wv (wv f1 (fv 79 23) 0 (f1 (fv 79 22) 0)) (fv 79 24) 0 1) (fv 79 24) 0 0)) hsk (by show f1 (fv 79 22) 0 = spP _ _ (f1 (fv 79 22) 0); unfold spP; rw [if_neg hge]) (by show tvP (kdP _ _ (f1 (fv 79 22) 0)) 0 _; unfold kdP; rw [if_neg hge]; exact Or.inl ⟨rfl, rfl⟩)
                rw [show mx [fv 79 22, fv 79 23, fv 79 24, fv 79 25] f (wv (wv (wv f1 (fv 79 23) 0 (f1 (fv 79 22) 0)) (fv 79 24) 0 1) (fv 79 24) 0 0) = (wv (wv (wv (mx [fv 79 22, fv 79 23, fv 79 24, fv 79 25] f f1) (fv 79 23) 0 (f1 (fv 79 22) 0)) (fv 79 24) 0 1) (fv 79 24) 0 0) from ((mx_wv rfl (mx_wv rfl (mx_wv rfl rfl)))).symm] at hk
                exact hk
              · refine Or.inl ⟨show inr ((f1 (fv 79 22) 0) + 1) from by constructor <;> omega, ?_⟩
                refine hO (c_isLetter (by omega) (fun (hh_33 : (97 ≤ (f 92 (f1 (fv 79 22) 0)) ∧ (f 92 (f1 (fv 79 22) 0)) ≤ 122 ∨ 65 ≤ (f 92 (f1 (fv 79 22) 0)) ∧ (f 92 (f1 (fv 79 22) 0)) ≤ 90)) => ?_) (fun (hh_34 : ¬ ((97 ≤ (f 92 (f1 (fv 79 22) 0)) ∧ (f 92 (f1 (fv 79 22) 0)) ≤ 122 ∨ 65 ≤ (f 92 (f1 (fv 79 22) 0)) ∧ (f 92 (f1 (fv 79 22) 0)) ≤ 90))) => ?_))
                · have hlt : ltr (f 92 (f1 (fv 79 22) 0)) = true := ltr_t.mpr hh_33
                  refine ⟨fun h => absurd (show (1 : Int) = 0 from h) (by decide), fun _ => ?_⟩
                  have q2 : (wv (wv (wv (wv f1 (fv 79 23) 0 (f1 (fv 79 22) 0)) (fv 79 24) 0 1) (fv 79 22) 0 ((f1 (fv 79 22) 0) + 1)) (fv 79 25) 0 (f 92 (f1 (fv 79 22) 0))) (fv 79 22) 0 = ((f1 (fv 79 22) 0) + 1) := rfl
                  refine hF (900 - ((wv (wv (wv (wv f1 (fv 79 23) 0 (f1 (fv 79 22) 0)) (fv 79 24) 0 1) (fv 79 22) 0 ((f1 (fv 79 22) 0) + 1)) (fv 79 25) 0 (f 92 (f1 (fv 79 22) 0))) (fv 79 22) 0) : Int).toNat ?_ (Or.inr (Or.inl ⟨rfl, (f 92 (f1 (fv 79 22) 0)), (wv (wv (wv (wv f1 (fv 79 23) 0 (f1 (fv 79 22) 0)) (fv 79 24) 0 1) (fv 79 22) 0 ((f1 (fv 79 22) 0) + 1)) (fv 79 25) 0 (f 92 (f1 (fv 79 22) 0))), rfl, rfl, (mx_wv rfl (mx_wv rfl (mx_wv rfl (mx_wv rfl rfl)))), rfl, ?_, ?_, ?_, ?_, ?_, ?_, ?_⟩))
                  · omega
                  · exact ⟨hsk, by show 0 ≤ f1 (fv 79 22) 0; omega, by show f1 (fv 79 22) 0 < _; omega⟩
                  · rfl
                  · exact ⟨by show f1 (fv 79 22) 0 + 1 ≤ f1 (fv 79 22) 0 + 1; omega, by show f1 (fv 79 22) 0 + 1 ≤ _; omega⟩
                  · exact hlt
                  · show ent (f 92) (f (fv 79 21) 0) (f1 (fv 79 22) 0) = wlk _ _ (f1 (fv 79 22) 0 + 1); unfold ent; rw [if_pos hlt]
                  · intro x (h0 : f1 (fv 79 22) 0 ≤ x) (h1 : x < f1 (fv 79 22) 0 + 1)
                    rw [show x = f1 (fv 79 22) 0 by omega]; exact hlt
                  · omega
                · have hlt : ¬ ltr (f 92 (f1 (fv 79 22) 0)) = true := fun q => hh_34 (ltr_t.mp q)
                  refine ⟨fun _ => ?_, fun h => absurd (show (0 : Int) = 0 from by decide) h⟩
                  refine hO (c_isDigit (by omega) (fun (hh_35 : 48 ≤ (f 92 (f1 (fv 79 22) 0))) (hh_36 : (f 92 (f1 (fv 79 22) 0)) ≤ 57) => ?_) (fun (hh_37 : ¬ (48 ≤ (f 92 (f1 (fv 79 22) 0)) ∧ (f 92 (f1 (fv 79 22) 0)) ≤ 57)) => ?_))
                  · have hdg : dgt (f 92 (f1 (fv 79 22) 0)) = true := dgt_t.mpr ⟨hh_35, hh_36⟩
                    refine ⟨fun h => absurd (show (1 : Int) = 0 from h) (by decide), fun _ => ?_⟩
                    refine Or.inl ⟨show inr ((f 92 (f1 (fv 79 22) 0)) - 48) from by constructor <;> omega, ?_⟩
                    have q2 : (wv (wv (wv (wv (wv f1 (fv 79 23) 0 (f1 (fv 79 22) 0)) (fv 79 24) 0 1) (fv 79 22) 0 ((f1 (fv 79 22) 0) + 1)) (fv 79 25) 0 (f 92 (f1 (fv 79 22) 0))) (fv 79 25) 0 ((f 92 (f1 (fv 79 22) 0)) - 48)) (fv 79 22) 0 = ((f1 (fv 79 22) 0) + 1) := rfl
                    refine hF (900 - ((wv (wv (wv (wv (wv f1 (fv 79 23) 0 (f1 (fv 79 22) 0)) (fv 79 24) 0 1) (fv 79 22) 0 ((f1 (fv 79 22) 0) + 1)) (fv 79 25) 0 (f 92 (f1 (fv 79 22) 0))) (fv 79 25) 0 ((f 92 (f1 (fv 79 22) 0)) - 48)) (fv 79 22) 0) : Int).toNat ?_ (Or.inr (Or.inr (⟨rfl, (f 92 (f1 (fv 79 22) 0)), (wv (wv (wv (wv (wv f1 (fv 79 23) 0 (f1 (fv 79 22) 0)) (fv 79 24) 0 1) (fv 79 22) 0 ((f1 (fv 79 22) 0) + 1)) (fv 79 25) 0 (f 92 (f1 (fv 79 22) 0))) (fv 79 25) 0 ((f 92 (f1 (fv 79 22) 0)) - 48)), rfl, rfl, (mx_wv rfl (mx_wv rfl (mx_wv rfl (mx_wv rfl (mx_wv rfl rfl))))), rfl, ?_, ?_, ?_, ?_, ?_, ?_, ?_, ?_, ?_⟩)))
                    · omega
                    · exact ⟨hsk, by show 0 ≤ f1 (fv 79 22) 0; omega, by show f1 (fv 79 22) 0 < _; omega⟩
                    · rfl
                    · exact ⟨by show f1 (fv 79 22) 0 + 1 ≤ f1 (fv 79 22) 0 + 1; omega, by show f1 (fv 79 22) 0 + 1 ≤ _; omega⟩
                    · exact hlt
                    · exact hdg
                    · show ent (f 92) (f (fv 79 21) 0) (f1 (fv 79 22) 0) = wlk _ _ (f1 (fv 79 22) 0 + 1); unfold ent; rw [if_neg hlt, if_pos hdg]
                    · intro x (h0 : f1 (fv 79 22) 0 ≤ x) (h1 : x < f1 (fv 79 22) 0 + 1)
                      rw [show x = f1 (fv 79 22) 0 by omega]; exact hdg
                    · have hd9 := dgt_t.mp hdg
                      refine ⟨?_, ?_, fun _ => ?_⟩
                      · show 0 ≤ f 92 (f1 (fv 79 22) 0) - 48; omega
                      · show f 92 (f1 (fv 79 22) 0) - 48 < 100000; omega
                      · show f 92 (f1 (fv 79 22) 0) - 48 = vlI (f 92) (f1 (fv 79 22) 0) (f1 (fv 79 22) 0 + 1); rw [vlI_s (by omega), vlI_0]; omega
                    · omega
                  · have hdg : ¬ dgt (f 92 (f1 (fv 79 22) 0)) = true := fun q => hh_37 (dgt_t.mp q)
                    refine ⟨fun _ => ?_, fun h => absurd (show (0 : Int) = 0 from by decide) h⟩
                    refine hO (c_isMark (by omega) (fun (hh_38 : ((f 92 (f1 (fv 79 22) 0)) = 59 ∨ (f 92 (f1 (fv 79 22) 0)) = 43 ∨ (f 92 (f1 (fv 79 22) 0)) = 45 ∨ (f 92 (f1 (fv 79 22) 0)) = 42 ∨ (f 92 (f1 (fv 79 22) 0)) = 47 ∨ (f 92 (f1 (fv 79 22) 0)) = 40 ∨ (f 92 (f1 (fv 79 22) 0)) = 41 ∨ (f 92 (f1 (fv 79 22) 0)) = 60 ∨ (f 92 (f1 (fv 79 22) 0)) = 61 ∨ (f 92 (f1 (fv 79 22) 0)) = 62)) => ?_) (fun (hh_39 : ¬ (((f 92 (f1 (fv 79 22) 0)) = 59 ∨ (f 92 (f1 (fv 79 22) 0)) = 43 ∨ (f 92 (f1 (fv 79 22) 0)) = 45 ∨ (f 92 (f1 (fv 79 22) 0)) = 42 ∨ (f 92 (f1 (fv 79 22) 0)) = 47 ∨ (f 92 (f1 (fv 79 22) 0)) = 40 ∨ (f 92 (f1 (fv 79 22) 0)) = 41 ∨ (f 92 (f1 (fv 79 22) 0)) = 60 ∨ (f 92 (f1 (fv 79 22) 0)) = 61 ∨ (f 92 (f1 (fv 79 22) 0)) = 62))) => ?_))
                    · have hmk : mrk (f 92 (f1 (fv 79 22) 0)) = true := mrk_t.mpr hh_38
                      refine ⟨fun h => absurd (show (1 : Int) = 0 from h) (by decide), fun _ => ?_⟩
                      have hent : ent (f 92) (f (fv 79 21) 0) (f1 (fv 79 22) 0) = f1 (fv 79 22) 0 + 1 := by unfold ent; rw [if_neg hlt, if_neg hdg]
                      have hk := k0 ((wv (wv (wv (wv (wv f1 (fv 79 23) 0 (f1 (fv 79 22) 0)) (fv 79 24) 0 1) (fv 79 22) 0 ((f1 (fv 79 22) 0) + 1)) (fv 79 25) 0 (f 92 (f1 (fv 79 22) 0))) (fv 79 24) 0 4)) hsk (by show f1 (fv 79 22) 0 + 1 = spP _ _ (f1 (fv 79 22) 0); unfold spP; rw [if_pos hsl, hent]) (by show tvP (kdP _ _ (f1 (fv 79 22) 0)) _ _; unfold kdP; rw [if_pos hsl, hent]; unfold kdI; rw [if_neg hlt, if_neg hdg]; first | (rw [if_pos hmk]; exact Or.inr (Or.inr (Or.inr (Or.inr ⟨by have := mrk_t.mp hmk; omega, by have := mrk_t.mp hmk; omega, rfl, rfl⟩)))) | (rw [if_neg hmk]; exact Or.inr (Or.inl ⟨rfl, rfl⟩)))
                      rw [show mx [fv 79 22, fv 79 23, fv 79 24, fv 79 25] f (wv (wv (wv (wv (wv f1 (fv 79 23) 0 (f1 (fv 79 22) 0)) (fv 79 24) 0 1) (fv 79 22) 0 ((f1 (fv 79 22) 0) + 1)) (fv 79 25) 0 (f 92 (f1 (fv 79 22) 0))) (fv 79 24) 0 4) = (wv (wv (wv (wv (wv (mx [fv 79 22, fv 79 23, fv 79 24, fv 79 25] f f1) (fv 79 23) 0 (f1 (fv 79 22) 0)) (fv 79 24) 0 1) (fv 79 22) 0 ((f1 (fv 79 22) 0) + 1)) (fv 79 25) 0 (f 92 (f1 (fv 79 22) 0))) (fv 79 24) 0 4) from ((mx_wv rfl (mx_wv rfl (mx_wv rfl (mx_wv rfl (mx_wv rfl rfl)))))).symm] at hk
                      exact hk
                    · have hmk : ¬ mrk (f 92 (f1 (fv 79 22) 0)) = true := fun q => hh_39 (mrk_t.mp q)
                      refine ⟨fun _ => ?_, fun h => absurd (show (0 : Int) = 0 from by decide) h⟩
                      have hent : ent (f 92) (f (fv 79 21) 0) (f1 (fv 79 22) 0) = f1 (fv 79 22) 0 + 1 := by unfold ent; rw [if_neg hlt, if_neg hdg]
                      have hk := k0 ((wv (wv (wv (wv f1 (fv 79 23) 0 (f1 (fv 79 22) 0)) (fv 79 24) 0 1) (fv 79 22) 0 ((f1 (fv 79 22) 0) + 1)) (fv 79 25) 0 (f 92 (f1 (fv 79 22) 0)))) hsk (by show f1 (fv 79 22) 0 + 1 = spP _ _ (f1 (fv 79 22) 0); unfold spP; rw [if_pos hsl, hent]) (by show tvP (kdP _ _ (f1 (fv 79 22) 0)) _ _; unfold kdP; rw [if_pos hsl, hent]; unfold kdI; rw [if_neg hlt, if_neg hdg]; first | (rw [if_pos hmk]; exact Or.inr (Or.inr (Or.inr (Or.inr ⟨by have := mrk_t.mp hmk; omega, by have := mrk_t.mp hmk; omega, rfl, rfl⟩)))) | (rw [if_neg hmk]; exact Or.inr (Or.inl ⟨rfl, rfl⟩)))
                      rw [show mx [fv 79 22, fv 79 23, fv 79 24, fv 79 25] f (wv (wv (wv (wv f1 (fv 79 23) 0 (f1 (fv 79 22) 0)) (fv 79 24) 0 1) (fv 79 22) 0 ((f1 (fv 79 22) 0) + 1)) (fv 79 25) 0 (f 92 (f1 (fv 79 22) 0))) = (wv (wv (wv (wv (mx [fv 79 22, fv 79 23, fv 79 24, fv 79 25] f f1) (fv 79 23) 0 (f1 (fv 79 22) 0)) (fv 79 24) 0 1) (fv 79 22) 0 ((f1 (fv 79 22) 0) + 1)) (fv 79 25) 0 (f 92 (f1 (fv 79 22) 0))) from ((mx_wv rfl (mx_wv rfl (mx_wv rfl (mx_wv rfl rfl))))).symm] at hk
                      exact hk
            · refine ⟨fun _ => ?_, fun h => absurd (show ((-1) : Int) = (-1) from by decide) h⟩
              have hge : ¬ f1 (fv 79 22) 0 < f (fv 79 21) 0 := by omega
              have hk := k0 ((wv (wv (wv f1 (fv 79 23) 0 (f1 (fv 79 22) 0)) (fv 79 24) 0 1) (fv 79 24) 0 0)) hsk (by show f1 (fv 79 22) 0 = spP _ _ (f1 (fv 79 22) 0); unfold spP; rw [if_neg hge]) (by show tvP (kdP _ _ (f1 (fv 79 22) 0)) 0 _; unfold kdP; rw [if_neg hge]; exact Or.inl ⟨rfl, rfl⟩)
              rw [show mx [fv 79 22, fv 79 23, fv 79 24, fv 79 25] f (wv (wv (wv f1 (fv 79 23) 0 (f1 (fv 79 22) 0)) (fv 79 24) 0 1) (fv 79 24) 0 0) = (wv (wv (wv (mx [fv 79 22, fv 79 23, fv 79 24, fv 79 25] f f1) (fv 79 23) 0 (f1 (fv 79 22) 0)) (fv 79 24) 0 1) (fv 79 24) 0 0) from ((mx_wv rfl (mx_wv rfl (mx_wv rfl rfl)))).symm] at hk
              exact hk
        · refine ⟨fun h => absurd (show ((-1) : Int) = 10 from h) (by decide), fun _ => ?_⟩
          have hsk : f1 (fv 79 22) 0 = skp (f 92) (f (fv 79 21) 0) (f (fv 79 22) 0) := by rw [← hsk0]; exact (wlk_f (fun q => by have q2 := blk_t.mp q.2; omega)).symm
          refine hO (c_raw (by omega) (show 0 ≤ (f1 (fv 79 22) 0) from by omega) (show (f (fv 79 21) 0) ≤ 400 from by omega) (fun (hh_40 : (f1 (fv 79 22) 0) < (f (fv 79 21) 0)) => ?_) (fun (hh_41 : ¬ (f1 (fv 79 22) 0) < (f (fv 79 21) 0)) => ?_))
          · have hsl : f1 (fv 79 22) 0 < f (fv 79 21) 0 := hh_40
            have hcb := htp.2 (f1 (fv 79 22) 0) hs.1 hsl
            refine ⟨fun (hh_42 : (f 92 (f1 (fv 79 22) 0)) = (-1)) => ?_, fun (hh_42 : ¬ (f 92 (f1 (fv 79 22) 0)) = (-1)) => ?_⟩
            · have hge : ¬ f1 (fv 79 22) 0 < f (fv 79 21) 0 := by omega
              have hk := k0 ((wv (wv (wv f1 (fv 79 23) 0 (f1 (fv 79 22) 0)) (fv 79 24) 0 1) (fv 79 24) 0 0)) hsk (by show f1 (fv 79 22) 0 = spP _ _ (f1 (fv 79 22) 0); unfold spP; rw [if_neg hge]) (by show tvP (kdP _ _ (f1 (fv 79 22) 0)) 0 _; unfold kdP; rw [if_neg hge]; exact Or.inl ⟨rfl, rfl⟩)
              rw [show mx [fv 79 22, fv 79 23, fv 79 24, fv 79 25] f (wv (wv (wv f1 (fv 79 23) 0 (f1 (fv 79 22) 0)) (fv 79 24) 0 1) (fv 79 24) 0 0) = (wv (wv (wv (mx [fv 79 22, fv 79 23, fv 79 24, fv 79 25] f f1) (fv 79 23) 0 (f1 (fv 79 22) 0)) (fv 79 24) 0 1) (fv 79 24) 0 0) from ((mx_wv rfl (mx_wv rfl (mx_wv rfl rfl)))).symm] at hk
              exact hk
            · refine Or.inl ⟨show inr ((f1 (fv 79 22) 0) + 1) from by constructor <;> omega, ?_⟩
              refine hO (c_isLetter (by omega) (fun (hh_43 : (97 ≤ (f 92 (f1 (fv 79 22) 0)) ∧ (f 92 (f1 (fv 79 22) 0)) ≤ 122 ∨ 65 ≤ (f 92 (f1 (fv 79 22) 0)) ∧ (f 92 (f1 (fv 79 22) 0)) ≤ 90)) => ?_) (fun (hh_44 : ¬ ((97 ≤ (f 92 (f1 (fv 79 22) 0)) ∧ (f 92 (f1 (fv 79 22) 0)) ≤ 122 ∨ 65 ≤ (f 92 (f1 (fv 79 22) 0)) ∧ (f 92 (f1 (fv 79 22) 0)) ≤ 90))) => ?_))
              · have hlt : ltr (f 92 (f1 (fv 79 22) 0)) = true := ltr_t.mpr hh_43
                refine ⟨fun h => absurd (show (1 : Int) = 0 from h) (by decide), fun _ => ?_⟩
                have q2 : (wv (wv (wv (wv f1 (fv 79 23) 0 (f1 (fv 79 22) 0)) (fv 79 24) 0 1) (fv 79 22) 0 ((f1 (fv 79 22) 0) + 1)) (fv 79 25) 0 (f 92 (f1 (fv 79 22) 0))) (fv 79 22) 0 = ((f1 (fv 79 22) 0) + 1) := rfl
                refine hF (900 - ((wv (wv (wv (wv f1 (fv 79 23) 0 (f1 (fv 79 22) 0)) (fv 79 24) 0 1) (fv 79 22) 0 ((f1 (fv 79 22) 0) + 1)) (fv 79 25) 0 (f 92 (f1 (fv 79 22) 0))) (fv 79 22) 0) : Int).toNat ?_ (Or.inr (Or.inl ⟨rfl, (f 92 (f1 (fv 79 22) 0)), (wv (wv (wv (wv f1 (fv 79 23) 0 (f1 (fv 79 22) 0)) (fv 79 24) 0 1) (fv 79 22) 0 ((f1 (fv 79 22) 0) + 1)) (fv 79 25) 0 (f 92 (f1 (fv 79 22) 0))), rfl, rfl, (mx_wv rfl (mx_wv rfl (mx_wv rfl (mx_wv rfl rfl)))), rfl, ?_, ?_, ?_, ?_, ?_, ?_, ?_⟩))
                · omega
                · exact ⟨hsk, by show 0 ≤ f1 (fv 79 22) 0; omega, by show f1 (fv 79 22) 0 < _; omega⟩
                · rfl
                · exact ⟨by show f1 (fv 79 22) 0 + 1 ≤ f1 (fv 79 22) 0 + 1; omega, by show f1 (fv 79 22) 0 + 1 ≤ _; omega⟩
                · exact hlt
                · show ent (f 92) (f (fv 79 21) 0) (f1 (fv 79 22) 0) = wlk _ _ (f1 (fv 79 22) 0 + 1); unfold ent; rw [if_pos hlt]
                · intro x (h0 : f1 (fv 79 22) 0 ≤ x) (h1 : x < f1 (fv 79 22) 0 + 1)
                  rw [show x = f1 (fv 79 22) 0 by omega]; exact hlt
                · omega
              · have hlt : ¬ ltr (f 92 (f1 (fv 79 22) 0)) = true := fun q => hh_44 (ltr_t.mp q)
                refine ⟨fun _ => ?_, fun h => absurd (show (0 : Int) = 0 from by decide) h⟩
                refine hO (c_isDigit (by omega) (fun (hh_45 : 48 ≤ (f 92 (f1 (fv 79 22) 0))) (hh_46 : (f 92 (f1 (fv 79 22) 0)) ≤ 57) => ?_) (fun (hh_47 : ¬ (48 ≤ (f 92 (f1 (fv 79 22) 0)) ∧ (f 92 (f1 (fv 79 22) 0)) ≤ 57)) => ?_))
                · have hdg : dgt (f 92 (f1 (fv 79 22) 0)) = true := dgt_t.mpr ⟨hh_45, hh_46⟩
                  refine ⟨fun h => absurd (show (1 : Int) = 0 from h) (by decide), fun _ => ?_⟩
                  refine Or.inl ⟨show inr ((f 92 (f1 (fv 79 22) 0)) - 48) from by constructor <;> omega, ?_⟩
                  have q2 : (wv (wv (wv (wv (wv f1 (fv 79 23) 0 (f1 (fv 79 22) 0)) (fv 79 24) 0 1) (fv 79 22) 0 ((f1 (fv 79 22) 0) + 1)) (fv 79 25) 0 (f 92 (f1 (fv 79 22) 0))) (fv 79 25) 0 ((f 92 (f1 (fv 79 22) 0)) - 48)) (fv 79 22) 0 = ((f1 (fv 79 22) 0) + 1) := rfl
                  refine hF (900 - ((wv (wv (wv (wv (wv f1 (fv 79 23) 0 (f1 (fv 79 22) 0)) (fv 79 24) 0 1) (fv 79 22) 0 ((f1 (fv 79 22) 0) + 1)) (fv 79 25) 0 (f 92 (f1 (fv 79 22) 0))) (fv 79 25) 0 ((f 92 (f1 (fv 79 22) 0)) - 48)) (fv 79 22) 0) : Int).toNat ?_ (Or.inr (Or.inr (⟨rfl, (f 92 (f1 (fv 79 22) 0)), (wv (wv (wv (wv (wv f1 (fv 79 23) 0 (f1 (fv 79 22) 0)) (fv 79 24) 0 1) (fv 79 22) 0 ((f1 (fv 79 22) 0) + 1)) (fv 79 25) 0 (f 92 (f1 (fv 79 22) 0))) (fv 79 25) 0 ((f 92 (f1 (fv 79 22) 0)) - 48)), rfl, rfl, (mx_wv rfl (mx_wv rfl (mx_wv rfl (mx_wv rfl (mx_wv rfl rfl))))), rfl, ?_, ?_, ?_, ?_, ?_, ?_, ?_, ?_, ?_⟩)))
                  · omega
                  · exact ⟨hsk, by show 0 ≤ f1 (fv 79 22) 0; omega, by show f1 (fv 79 22) 0 < _; omega⟩
                  · rfl
                  · exact ⟨by show f1 (fv 79 22) 0 + 1 ≤ f1 (fv 79 22) 0 + 1; omega, by show f1 (fv 79 22) 0 + 1 ≤ _; omega⟩
                  · exact hlt
                  · exact hdg
                  · show ent (f 92) (f (fv 79 21) 0) (f1 (fv 79 22) 0) = wlk _ _ (f1 (fv 79 22) 0 + 1); unfold ent; rw [if_neg hlt, if_pos hdg]
                  · intro x (h0 : f1 (fv 79 22) 0 ≤ x) (h1 : x < f1 (fv 79 22) 0 + 1)
                    rw [show x = f1 (fv 79 22) 0 by omega]; exact hdg
                  · have hd9 := dgt_t.mp hdg
                    refine ⟨?_, ?_, fun _ => ?_⟩
                    · show 0 ≤ f 92 (f1 (fv 79 22) 0) - 48; omega
                    · show f 92 (f1 (fv 79 22) 0) - 48 < 100000; omega
                    · show f 92 (f1 (fv 79 22) 0) - 48 = vlI (f 92) (f1 (fv 79 22) 0) (f1 (fv 79 22) 0 + 1); rw [vlI_s (by omega), vlI_0]; omega
                  · omega
                · have hdg : ¬ dgt (f 92 (f1 (fv 79 22) 0)) = true := fun q => hh_47 (dgt_t.mp q)
                  refine ⟨fun _ => ?_, fun h => absurd (show (0 : Int) = 0 from by decide) h⟩
                  refine hO (c_isMark (by omega) (fun (hh_48 : ((f 92 (f1 (fv 79 22) 0)) = 59 ∨ (f 92 (f1 (fv 79 22) 0)) = 43 ∨ (f 92 (f1 (fv 79 22) 0)) = 45 ∨ (f 92 (f1 (fv 79 22) 0)) = 42 ∨ (f 92 (f1 (fv 79 22) 0)) = 47 ∨ (f 92 (f1 (fv 79 22) 0)) = 40 ∨ (f 92 (f1 (fv 79 22) 0)) = 41 ∨ (f 92 (f1 (fv 79 22) 0)) = 60 ∨ (f 92 (f1 (fv 79 22) 0)) = 61 ∨ (f 92 (f1 (fv 79 22) 0)) = 62)) => ?_) (fun (hh_49 : ¬ (((f 92 (f1 (fv 79 22) 0)) = 59 ∨ (f 92 (f1 (fv 79 22) 0)) = 43 ∨ (f 92 (f1 (fv 79 22) 0)) = 45 ∨ (f 92 (f1 (fv 79 22) 0)) = 42 ∨ (f 92 (f1 (fv 79 22) 0)) = 47 ∨ (f 92 (f1 (fv 79 22) 0)) = 40 ∨ (f 92 (f1 (fv 79 22) 0)) = 41 ∨ (f 92 (f1 (fv 79 22) 0)) = 60 ∨ (f 92 (f1 (fv 79 22) 0)) = 61 ∨ (f 92 (f1 (fv 79 22) 0)) = 62))) => ?_))
                  · have hmk : mrk (f 92 (f1 (fv 79 22) 0)) = true := mrk_t.mpr hh_48
                    refine ⟨fun h => absurd (show (1 : Int) = 0 from h) (by decide), fun _ => ?_⟩
                    have hent : ent (f 92) (f (fv 79 21) 0) (f1 (fv 79 22) 0) = f1 (fv 79 22) 0 + 1 := by unfold ent; rw [if_neg hlt, if_neg hdg]
                    have hk := k0 ((wv (wv (wv (wv (wv f1 (fv 79 23) 0 (f1 (fv 79 22) 0)) (fv 79 24) 0 1) (fv 79 22) 0 ((f1 (fv 79 22) 0) + 1)) (fv 79 25) 0 (f 92 (f1 (fv 79 22) 0))) (fv 79 24) 0 4)) hsk (by show f1 (fv 79 22) 0 + 1 = spP _ _ (f1 (fv 79 22) 0); unfold spP; rw [if_pos hsl, hent]) (by show tvP (kdP _ _ (f1 (fv 79 22) 0)) _ _; unfold kdP; rw [if_pos hsl, hent]; unfold kdI; rw [if_neg hlt, if_neg hdg]; first | (rw [if_pos hmk]; exact Or.inr (Or.inr (Or.inr (Or.inr ⟨by have := mrk_t.mp hmk; omega, by have := mrk_t.mp hmk; omega, rfl, rfl⟩)))) | (rw [if_neg hmk]; exact Or.inr (Or.inl ⟨rfl, rfl⟩)))
                    rw [show mx [fv 79 22, fv 79 23, fv 79 24, fv 79 25] f (wv (wv (wv (wv (wv f1 (fv 79 23) 0 (f1 (fv 79 22) 0)) (fv 79 24) 0 1) (fv 79 22) 0 ((f1 (fv 79 22) 0) + 1)) (fv 79 25) 0 (f 92 (f1 (fv 79 22) 0))) (fv 79 24) 0 4) = (wv (wv (wv (wv (wv (mx [fv 79 22, fv 79 23, fv 79 24, fv 79 25] f f1) (fv 79 23) 0 (f1 (fv 79 22) 0)) (fv 79 24) 0 1) (fv 79 22) 0 ((f1 (fv 79 22) 0) + 1)) (fv 79 25) 0 (f 92 (f1 (fv 79 22) 0))) (fv 79 24) 0 4) from ((mx_wv rfl (mx_wv rfl (mx_wv rfl (mx_wv rfl (mx_wv rfl rfl)))))).symm] at hk
                    exact hk
                  · have hmk : ¬ mrk (f 92 (f1 (fv 79 22) 0)) = true := fun q => hh_49 (mrk_t.mp q)
                    refine ⟨fun _ => ?_, fun h => absurd (show (0 : Int) = 0 from by decide) h⟩
                    have hent : ent (f 92) (f (fv 79 21) 0) (f1 (fv 79 22) 0) = f1 (fv 79 22) 0 + 1 := by unfold ent; rw [if_neg hlt, if_neg hdg]
                    have hk := k0 ((wv (wv (wv (wv f1 (fv 79 23) 0 (f1 (fv 79 22) 0)) (fv 79 24) 0 1) (fv 79 22) 0 ((f1 (fv 79 22) 0) + 1)) (fv 79 25) 0 (f 92 (f1 (fv 79 22) 0)))) hsk (by show f1 (fv 79 22) 0 + 1 = spP _ _ (f1 (fv 79 22) 0); unfold spP; rw [if_pos hsl, hent]) (by show tvP (kdP _ _ (f1 (fv 79 22) 0)) _ _; unfold kdP; rw [if_pos hsl, hent]; unfold kdI; rw [if_neg hlt, if_neg hdg]; first | (rw [if_pos hmk]; exact Or.inr (Or.inr (Or.inr (Or.inr ⟨by have := mrk_t.mp hmk; omega, by have := mrk_t.mp hmk; omega, rfl, rfl⟩)))) | (rw [if_neg hmk]; exact Or.inr (Or.inl ⟨rfl, rfl⟩)))
                    rw [show mx [fv 79 22, fv 79 23, fv 79 24, fv 79 25] f (wv (wv (wv (wv f1 (fv 79 23) 0 (f1 (fv 79 22) 0)) (fv 79 24) 0 1) (fv 79 22) 0 ((f1 (fv 79 22) 0) + 1)) (fv 79 25) 0 (f 92 (f1 (fv 79 22) 0))) = (wv (wv (wv (wv (mx [fv 79 22, fv 79 23, fv 79 24, fv 79 25] f f1) (fv 79 23) 0 (f1 (fv 79 22) 0)) (fv 79 24) 0 1) (fv 79 22) 0 ((f1 (fv 79 22) 0) + 1)) (fv 79 25) 0 (f 92 (f1 (fv 79 22) 0))) from ((mx_wv rfl (mx_wv rfl (mx_wv rfl (mx_wv rfl rfl))))).symm] at hk
                    exact hk
          · refine ⟨fun _ => ?_, fun h => absurd (show ((-1) : Int) = (-1) from by decide) h⟩
            have hge : ¬ f1 (fv 79 22) 0 < f (fv 79 21) 0 := by omega
            have hk := k0 ((wv (wv (wv f1 (fv 79 23) 0 (f1 (fv 79 22) 0)) (fv 79 24) 0 1) (fv 79 24) 0 0)) hsk (by show f1 (fv 79 22) 0 = spP _ _ (f1 (fv 79 22) 0); unfold spP; rw [if_neg hge]) (by show tvP (kdP _ _ (f1 (fv 79 22) 0)) 0 _; unfold kdP; rw [if_neg hge]; exact Or.inl ⟨rfl, rfl⟩)
            rw [show mx [fv 79 22, fv 79 23, fv 79 24, fv 79 25] f (wv (wv (wv f1 (fv 79 23) 0 (f1 (fv 79 22) 0)) (fv 79 24) 0 1) (fv 79 24) 0 0) = (wv (wv (wv (mx [fv 79 22, fv 79 23, fv 79 24, fv 79 25] f f1) (fv 79 23) 0 (f1 (fv 79 22) 0)) (fv 79 24) 0 1) (fv 79 24) 0 0) from ((mx_wv rfl (mx_wv rfl (mx_wv rfl rfl)))).symm] at hk
            exact hk
    · obtain ⟨rfl, cc9, f1, rfl, rfl, rfl, rfl, hfr, htk, hsr, hlt, hen, hal, hm⟩ := hI
      have htp1 := htp.1
      refine hO (c_raw (by omega) (show 0 ≤ (f1 (fv 79 22) 0) from by omega) (show (f (fv 79 21) 0) ≤ 400 from by omega) (fun (hh_50 : (f1 (fv 79 22) 0) < (f (fv 79 21) 0)) => ?_) (fun (hh_51 : ¬ (f1 (fv 79 22) 0) < (f (fv 79 21) 0)) => ?_))
      · have hr9 := hh_50
        refine hO (c_isLetter (by omega) (fun (hh_52 : (97 ≤ (f 92 (f1 (fv 79 22) 0)) ∧ (f 92 (f1 (fv 79 22) 0)) ≤ 122 ∨ 65 ≤ (f 92 (f1 (fv 79 22) 0)) ∧ (f 92 (f1 (fv 79 22) 0)) ≤ 90)) => ?_) (fun (hh_53 : ¬ ((97 ≤ (f 92 (f1 (fv 79 22) 0)) ∧ (f 92 (f1 (fv 79 22) 0)) ≤ 122 ∨ 65 ≤ (f 92 (f1 (fv 79 22) 0)) ∧ (f 92 (f1 (fv 79 22) 0)) ≤ 90))) => ?_))
        · have hl9 : ltr (f 92 (f1 (fv 79 22) 0)) = true := by first | exact ltr_t.mpr hh_52 | (exfalso; omega)
          refine ⟨fun h => absurd (show (1 : Int) = 0 from h) (by decide), fun _ => ?_⟩
          refine Or.inl ⟨show inr ((f1 (fv 79 22) 0) + 1) from by constructor <;> omega, ?_⟩
          have q2 : (wv f1 (fv 79 22) 0 ((f1 (fv 79 22) 0) + 1)) (fv 79 22) 0 = ((f1 (fv 79 22) 0) + 1) := rfl
          refine hB (900 - ((wv f1 (fv 79 22) 0 ((f1 (fv 79 22) 0) + 1)) (fv 79 22) 0) : Int).toNat ?_ (Or.inr (Or.inl ⟨rfl, cc9, (wv f1 (fv 79 22) 0 ((f1 (fv 79 22) 0) + 1)), rfl, rfl, (mx_wv rfl rfl), rfl, ?_, ?_, ?_, ?_, ?_, ?_, ?_⟩))
          · omega
          · exact hfr
          · exact htk
          · exact ⟨by show f1 (fv 79 23) 0 + 1 ≤ f1 (fv 79 22) 0 + 1; omega, by show f1 (fv 79 22) 0 + 1 ≤ _; omega⟩
          · exact hlt
          · rw [show ent (f 92) (f (fv 79 21) 0) ((wv f1 (fv 79 22) 0 ((f1 (fv 79 22) 0) + 1)) (fv 79 23) 0) = ent (f 92) (f (fv 79 21) 0) (f1 (fv 79 23) 0) from rfl, hen]; exact wlk_t (p := fun k => ltr (f 92 k)) (by omega) hl9
          · intro x (h0 : f1 (fv 79 23) 0 ≤ x) (h1 : x < f1 (fv 79 22) 0 + 1)
            by_cases e : x = f1 (fv 79 22) 0
            · rw [e]; exact hl9
            · exact hal x h0 (by omega)
          · omega
        · have hnl : ¬ (f1 (fv 79 22) 0 < f (fv 79 21) 0 ∧ ltr (f 92 (f1 (fv 79 22) 0)) = true) := fun q => by have := ltr_t.mp q.2; omega
          refine ⟨fun _ => ?_, fun h => absurd (show (0 : Int) = 0 from by decide) h⟩
          refine hO (c_wordAt (by omega) (show 0 ≤ (f1 (fv 79 23) 0) ∧ (f1 (fv 79 23) 0) < (f1 (fv 79 22) 0) ∧ (f1 (fv 79 22) 0) ≤ (f (fv 79 21) 0) ∧ (f (fv 79 21) 0) ≤ 400 from by omega) (show ∀ x, (f1 (fv 79 23) 0) ≤ x → x < (f1 (fv 79 22) 0) → ltr (f 92 x) = true from hal) (show (wdB f) from hwd) (fun r_54 (hh_55 : kwI (f 92) (f1 (fv 79 23) 0) (f1 (fv 79 22) 0) = r_54 + 3) (hh_56 : 0 ≤ r_54) => ?_) (fun (hh_57 : kwI (f 92) (f1 (fv 79 23) 0) (f1 (fv 79 22) 0) = 1) => ?_))
          · have hw1 := hh_55
            have hw2 := hh_56
            have hw3 : r_54 = kwI (f 92) (f1 (fv 79 23) 0) (f1 (fv 79 22) 0) - 3 := by omega
            refine ⟨fun (hh_58 : r_54 = (-1)) => ?_, fun (hh_58 : ¬ r_54 = (-1)) => ?_⟩
            · have hent : ent (f 92) (f (fv 79 21) 0) (f1 (fv 79 23) 0) = f1 (fv 79 22) 0 := by rw [hen]; exact wlk_f hnl
              have hkd : kdP (f 92) (f (fv 79 21) 0) (f1 (fv 79 23) 0) = kwI (f 92) (f1 (fv 79 23) 0) (f1 (fv 79 22) 0) := by unfold kdP; rw [if_pos hfr.2.2, hent]; unfold kdI; rw [if_pos hlt]
              have hk := k0 ((wv f1 (fv 79 25) 0 r_54)) hfr.1 (by show f1 (fv 79 22) 0 = spP _ _ (f1 (fv 79 23) 0); unfold spP; rw [if_pos hfr.2.2, hent]) (by show tvP (kdP _ _ (f1 (fv 79 23) 0)) _ _; rw [hkd]; first | (exfalso; omega) | exact Or.inr (Or.inr (Or.inl ⟨by omega, by have := kwI_r (t := f 92) (a := f1 (fv 79 23) 0) (e := f1 (fv 79 22) 0); omega, rfl, hw3⟩)) | (rw [hw0]; exact Or.inr (Or.inl ⟨rfl, htk⟩)))
              rw [show mx [fv 79 22, fv 79 23, fv 79 24, fv 79 25] f (wv f1 (fv 79 25) 0 r_54) = (wv (mx [fv 79 22, fv 79 23, fv 79 24, fv 79 25] f f1) (fv 79 25) 0 r_54) from ((mx_wv rfl rfl)).symm] at hk
              exact hk
            · have hent : ent (f 92) (f (fv 79 21) 0) (f1 (fv 79 23) 0) = f1 (fv 79 22) 0 := by rw [hen]; exact wlk_f hnl
              have hkd : kdP (f 92) (f (fv 79 21) 0) (f1 (fv 79 23) 0) = kwI (f 92) (f1 (fv 79 23) 0) (f1 (fv 79 22) 0) := by unfold kdP; rw [if_pos hfr.2.2, hent]; unfold kdI; rw [if_pos hlt]
              have hk := k0 ((wv (wv f1 (fv 79 25) 0 r_54) (fv 79 24) 0 2)) hfr.1 (by show f1 (fv 79 22) 0 = spP _ _ (f1 (fv 79 23) 0); unfold spP; rw [if_pos hfr.2.2, hent]) (by show tvP (kdP _ _ (f1 (fv 79 23) 0)) _ _; rw [hkd]; first | (exfalso; omega) | exact Or.inr (Or.inr (Or.inl ⟨by omega, by have := kwI_r (t := f 92) (a := f1 (fv 79 23) 0) (e := f1 (fv 79 22) 0); omega, rfl, hw3⟩)) | (rw [hw0]; exact Or.inr (Or.inl ⟨rfl, htk⟩)))
              rw [show mx [fv 79 22, fv 79 23, fv 79 24, fv 79 25] f (wv (wv f1 (fv 79 25) 0 r_54) (fv 79 24) 0 2) = (wv (wv (mx [fv 79 22, fv 79 23, fv 79 24, fv 79 25] f f1) (fv 79 25) 0 r_54) (fv 79 24) 0 2) from ((mx_wv rfl (mx_wv rfl rfl))).symm] at hk
              exact hk
          · have hw0 := hh_57
            refine ⟨fun _ => ?_, fun h => absurd (show ((-1) : Int) = (-1) from by decide) h⟩
            have hent : ent (f 92) (f (fv 79 21) 0) (f1 (fv 79 23) 0) = f1 (fv 79 22) 0 := by rw [hen]; exact wlk_f hnl
            have hkd : kdP (f 92) (f (fv 79 21) 0) (f1 (fv 79 23) 0) = kwI (f 92) (f1 (fv 79 23) 0) (f1 (fv 79 22) 0) := by unfold kdP; rw [if_pos hfr.2.2, hent]; unfold kdI; rw [if_pos hlt]
            have hk := k0 ((wv f1 (fv 79 25) 0 (-1))) hfr.1 (by show f1 (fv 79 22) 0 = spP _ _ (f1 (fv 79 23) 0); unfold spP; rw [if_pos hfr.2.2, hent]) (by show tvP (kdP _ _ (f1 (fv 79 23) 0)) _ _; rw [hkd]; first | (exfalso; omega) | exact Or.inr (Or.inr (Or.inl ⟨by omega, by have := kwI_r (t := f 92) (a := f1 (fv 79 23) 0) (e := f1 (fv 79 22) 0); omega, rfl, hw3⟩)) | (rw [hw0]; exact Or.inr (Or.inl ⟨rfl, htk⟩)))
            rw [show mx [fv 79 22, fv 79 23, fv 79 24, fv 79 25] f (wv f1 (fv 79 25) 0 (-1)) = (wv (mx [fv 79 22, fv 79 23, fv 79 24, fv 79 25] f f1) (fv 79 25) 0 (-1)) from ((mx_wv rfl rfl)).symm] at hk
            exact hk
      · have hr9 := hh_51
        refine hO (c_isLetter (by omega) (fun (hh_59 : (97 ≤ (-1) ∧ (-1) ≤ 122 ∨ 65 ≤ (-1) ∧ (-1) ≤ 90)) => ?_) (fun (hh_60 : ¬ ((97 ≤ (-1) ∧ (-1) ≤ 122 ∨ 65 ≤ (-1) ∧ (-1) ≤ 90))) => ?_))
        · have hl9 : ltr (f 92 (f1 (fv 79 22) 0)) = true := by first | exact ltr_t.mpr hh_59 | (exfalso; omega)
          refine ⟨fun h => absurd (show (1 : Int) = 0 from h) (by decide), fun _ => ?_⟩
          refine Or.inl ⟨show inr ((f1 (fv 79 22) 0) + 1) from by constructor <;> omega, ?_⟩
          have q2 : (wv f1 (fv 79 22) 0 ((f1 (fv 79 22) 0) + 1)) (fv 79 22) 0 = ((f1 (fv 79 22) 0) + 1) := rfl
          refine hB (900 - ((wv f1 (fv 79 22) 0 ((f1 (fv 79 22) 0) + 1)) (fv 79 22) 0) : Int).toNat ?_ (Or.inr (Or.inl ⟨rfl, cc9, (wv f1 (fv 79 22) 0 ((f1 (fv 79 22) 0) + 1)), rfl, rfl, (mx_wv rfl rfl), rfl, ?_, ?_, ?_, ?_, ?_, ?_, ?_⟩))
          · omega
          · exact hfr
          · exact htk
          · exact ⟨by show f1 (fv 79 23) 0 + 1 ≤ f1 (fv 79 22) 0 + 1; omega, by show f1 (fv 79 22) 0 + 1 ≤ _; omega⟩
          · exact hlt
          · rw [show ent (f 92) (f (fv 79 21) 0) ((wv f1 (fv 79 22) 0 ((f1 (fv 79 22) 0) + 1)) (fv 79 23) 0) = ent (f 92) (f (fv 79 21) 0) (f1 (fv 79 23) 0) from rfl, hen]; exact wlk_t (p := fun k => ltr (f 92 k)) (by omega) hl9
          · intro x (h0 : f1 (fv 79 23) 0 ≤ x) (h1 : x < f1 (fv 79 22) 0 + 1)
            by_cases e : x = f1 (fv 79 22) 0
            · rw [e]; exact hl9
            · exact hal x h0 (by omega)
          · omega
        · have hnl : ¬ (f1 (fv 79 22) 0 < f (fv 79 21) 0 ∧ ltr (f 92 (f1 (fv 79 22) 0)) = true) := fun q => by have := ltr_t.mp q.2; omega
          refine ⟨fun _ => ?_, fun h => absurd (show (0 : Int) = 0 from by decide) h⟩
          refine hO (c_wordAt (by omega) (show 0 ≤ (f1 (fv 79 23) 0) ∧ (f1 (fv 79 23) 0) < (f1 (fv 79 22) 0) ∧ (f1 (fv 79 22) 0) ≤ (f (fv 79 21) 0) ∧ (f (fv 79 21) 0) ≤ 400 from by omega) (show ∀ x, (f1 (fv 79 23) 0) ≤ x → x < (f1 (fv 79 22) 0) → ltr (f 92 x) = true from hal) (show (wdB f) from hwd) (fun r_61 (hh_62 : kwI (f 92) (f1 (fv 79 23) 0) (f1 (fv 79 22) 0) = r_61 + 3) (hh_63 : 0 ≤ r_61) => ?_) (fun (hh_64 : kwI (f 92) (f1 (fv 79 23) 0) (f1 (fv 79 22) 0) = 1) => ?_))
          · have hw1 := hh_62
            have hw2 := hh_63
            have hw3 : r_61 = kwI (f 92) (f1 (fv 79 23) 0) (f1 (fv 79 22) 0) - 3 := by omega
            refine ⟨fun (hh_65 : r_61 = (-1)) => ?_, fun (hh_65 : ¬ r_61 = (-1)) => ?_⟩
            · have hent : ent (f 92) (f (fv 79 21) 0) (f1 (fv 79 23) 0) = f1 (fv 79 22) 0 := by rw [hen]; exact wlk_f hnl
              have hkd : kdP (f 92) (f (fv 79 21) 0) (f1 (fv 79 23) 0) = kwI (f 92) (f1 (fv 79 23) 0) (f1 (fv 79 22) 0) := by unfold kdP; rw [if_pos hfr.2.2, hent]; unfold kdI; rw [if_pos hlt]
              have hk := k0 ((wv f1 (fv 79 25) 0 r_61)) hfr.1 (by show f1 (fv 79 22) 0 = spP _ _ (f1 (fv 79 23) 0); unfold spP; rw [if_pos hfr.2.2, hent]) (by show tvP (kdP _ _ (f1 (fv 79 23) 0)) _ _; rw [hkd]; first | (exfalso; omega) | exact Or.inr (Or.inr (Or.inl ⟨by omega, by have := kwI_r (t := f 92) (a := f1 (fv 79 23) 0) (e := f1 (fv 79 22) 0); omega, rfl, hw3⟩)) | (rw [hw0]; exact Or.inr (Or.inl ⟨rfl, htk⟩)))
              rw [show mx [fv 79 22, fv 79 23, fv 79 24, fv 79 25] f (wv f1 (fv 79 25) 0 r_61) = (wv (mx [fv 79 22, fv 79 23, fv 79 24, fv 79 25] f f1) (fv 79 25) 0 r_61) from ((mx_wv rfl rfl)).symm] at hk
              exact hk
            · have hent : ent (f 92) (f (fv 79 21) 0) (f1 (fv 79 23) 0) = f1 (fv 79 22) 0 := by rw [hen]; exact wlk_f hnl
              have hkd : kdP (f 92) (f (fv 79 21) 0) (f1 (fv 79 23) 0) = kwI (f 92) (f1 (fv 79 23) 0) (f1 (fv 79 22) 0) := by unfold kdP; rw [if_pos hfr.2.2, hent]; unfold kdI; rw [if_pos hlt]
              have hk := k0 ((wv (wv f1 (fv 79 25) 0 r_61) (fv 79 24) 0 2)) hfr.1 (by show f1 (fv 79 22) 0 = spP _ _ (f1 (fv 79 23) 0); unfold spP; rw [if_pos hfr.2.2, hent]) (by show tvP (kdP _ _ (f1 (fv 79 23) 0)) _ _; rw [hkd]; first | (exfalso; omega) | exact Or.inr (Or.inr (Or.inl ⟨by omega, by have := kwI_r (t := f 92) (a := f1 (fv 79 23) 0) (e := f1 (fv 79 22) 0); omega, rfl, hw3⟩)) | (rw [hw0]; exact Or.inr (Or.inl ⟨rfl, htk⟩)))
              rw [show mx [fv 79 22, fv 79 23, fv 79 24, fv 79 25] f (wv (wv f1 (fv 79 25) 0 r_61) (fv 79 24) 0 2) = (wv (wv (mx [fv 79 22, fv 79 23, fv 79 24, fv 79 25] f f1) (fv 79 25) 0 r_61) (fv 79 24) 0 2) from ((mx_wv rfl (mx_wv rfl rfl))).symm] at hk
              exact hk
          · have hw0 := hh_64
            refine ⟨fun _ => ?_, fun h => absurd (show ((-1) : Int) = (-1) from by decide) h⟩
            have hent : ent (f 92) (f (fv 79 21) 0) (f1 (fv 79 23) 0) = f1 (fv 79 22) 0 := by rw [hen]; exact wlk_f hnl
            have hkd : kdP (f 92) (f (fv 79 21) 0) (f1 (fv 79 23) 0) = kwI (f 92) (f1 (fv 79 23) 0) (f1 (fv 79 22) 0) := by unfold kdP; rw [if_pos hfr.2.2, hent]; unfold kdI; rw [if_pos hlt]
            have hk := k0 ((wv f1 (fv 79 25) 0 (-1))) hfr.1 (by show f1 (fv 79 22) 0 = spP _ _ (f1 (fv 79 23) 0); unfold spP; rw [if_pos hfr.2.2, hent]) (by show tvP (kdP _ _ (f1 (fv 79 23) 0)) _ _; rw [hkd]; first | (exfalso; omega) | exact Or.inr (Or.inr (Or.inl ⟨by omega, by have := kwI_r (t := f 92) (a := f1 (fv 79 23) 0) (e := f1 (fv 79 22) 0); omega, rfl, hw3⟩)) | (rw [hw0]; exact Or.inr (Or.inl ⟨rfl, htk⟩)))
            rw [show mx [fv 79 22, fv 79 23, fv 79 24, fv 79 25] f (wv f1 (fv 79 25) 0 (-1)) = (wv (mx [fv 79 22, fv 79 23, fv 79 24, fv 79 25] f f1) (fv 79 25) 0 (-1)) from ((mx_wv rfl rfl)).symm] at hk
            exact hk
    · obtain ⟨rfl, cc9, f1, rfl, rfl, rfl, rfl, hfr, htk, hsr, hlt, hdg, hen, hal, hva, hm⟩ := hI
      have htp1 := htp.1
      have hvr : f1 (fv 79 22) 0 - f1 (fv 79 23) 0 ≤ 4 → f1 (fv 79 25) 0 ≤ 9999 ∧ (f1 (fv 79 22) 0 - f1 (fv 79 23) 0 ≤ 3 → f1 (fv 79 25) 0 ≤ 999) := fun h => by have q := vlI_r (t := f 92) (a := f1 (fv 79 23) 0) (e := f1 (fv 79 22) 0) (by omega) h hal; rw [hva.2.2 h]; exact q.2
      refine hO (c_raw (by omega) (show 0 ≤ (f1 (fv 79 22) 0) from by omega) (show (f (fv 79 21) 0) ≤ 400 from by omega) (fun (hh_66 : (f1 (fv 79 22) 0) < (f (fv 79 21) 0)) => ?_) (fun (hh_67 : ¬ (f1 (fv 79 22) 0) < (f (fv 79 21) 0)) => ?_))
      · have hr9 := hh_66
        refine hO (c_isDigit (by omega) (fun (hh_68 : 48 ≤ (f 92 (f1 (fv 79 22) 0))) (hh_69 : (f 92 (f1 (fv 79 22) 0)) ≤ 57) => ?_) (fun (hh_70 : ¬ (48 ≤ (f 92 (f1 (fv 79 22) 0)) ∧ (f 92 (f1 (fv 79 22) 0)) ≤ 57)) => ?_))
        · have hl9 : dgt (f 92 (f1 (fv 79 22) 0)) = true := by first | exact dgt_t.mpr ⟨hh_68, hh_69⟩ | (exfalso; omega)
          refine ⟨fun h => absurd (show (1 : Int) = 0 from h) (by decide), fun _ => ?_⟩
          refine ⟨fun (hh_71 : f1 (fv 79 25) 0 < 10000) => ?_, fun (hh_71 : ¬ f1 (fv 79 25) 0 < 10000) => ?_⟩
          · refine Or.inl ⟨show inr (10 * (f1 (fv 79 25) 0)) from by constructor <;> omega, ?_⟩
            refine hO (c_raw (by omega) (show 0 ≤ (f1 (fv 79 22) 0) from by omega) (show (f (fv 79 21) 0) ≤ 400 from by omega) (fun (hh_72 : (f1 (fv 79 22) 0) < (f (fv 79 21) 0)) => ?_) (fun (hh_73 : ¬ (f1 (fv 79 22) 0) < (f (fv 79 21) 0)) => ?_))
            · refine Or.inl ⟨show inr ((10 * (f1 (fv 79 25) 0)) + (f 92 (f1 (fv 79 22) 0))) from by constructor <;> omega, ?_⟩
              refine Or.inl ⟨show inr (((10 * (f1 (fv 79 25) 0)) + (f 92 (f1 (fv 79 22) 0))) - 48) from by constructor <;> omega, ?_⟩
              refine Or.inl ⟨show inr ((f1 (fv 79 22) 0) + 1) from by constructor <;> omega, ?_⟩
              have q2 : (wv (wv f1 (fv 79 25) 0 (((10 * (f1 (fv 79 25) 0)) + (f 92 (f1 (fv 79 22) 0))) - 48)) (fv 79 22) 0 ((f1 (fv 79 22) 0) + 1)) (fv 79 22) 0 = ((f1 (fv 79 22) 0) + 1) := rfl
              refine hB (900 - ((wv (wv f1 (fv 79 25) 0 (((10 * (f1 (fv 79 25) 0)) + (f 92 (f1 (fv 79 22) 0))) - 48)) (fv 79 22) 0 ((f1 (fv 79 22) 0) + 1)) (fv 79 22) 0) : Int).toNat ?_ (Or.inr (Or.inr (⟨rfl, cc9, (wv (wv f1 (fv 79 25) 0 (((10 * (f1 (fv 79 25) 0)) + (f 92 (f1 (fv 79 22) 0))) - 48)) (fv 79 22) 0 ((f1 (fv 79 22) 0) + 1)), rfl, rfl, (mx_wv rfl (mx_wv rfl rfl)), rfl, ?_, ?_, ?_, ?_, ?_, ?_, ?_, ?_, ?_⟩)))
              · omega
              · exact hfr
              · exact htk
              · exact ⟨by show f1 (fv 79 23) 0 + 1 ≤ f1 (fv 79 22) 0 + 1; omega, by show f1 (fv 79 22) 0 + 1 ≤ _; omega⟩
              · exact hlt
              · exact hdg
              · rw [show ent (f 92) (f (fv 79 21) 0) ((wv (wv f1 (fv 79 25) 0 (((10 * (f1 (fv 79 25) 0)) + (f 92 (f1 (fv 79 22) 0))) - 48)) (fv 79 22) 0 ((f1 (fv 79 22) 0) + 1)) (fv 79 23) 0) = ent (f 92) (f (fv 79 21) 0) (f1 (fv 79 23) 0) from rfl, hen]; exact wlk_t (p := fun k => dgt (f 92 k)) (by omega) hl9
              · intro x (h0 : f1 (fv 79 23) 0 ≤ x) (h1 : x < f1 (fv 79 22) 0 + 1)
                by_cases e : x = f1 (fv 79 22) 0
                · rw [e]; exact hl9
                · exact hal x h0 (by omega)
              · have hd9 := dgt_t.mp hl9
                refine ⟨?_, ?_, fun h => ?_⟩
                · first | (exfalso; omega) | (show 0 ≤ 10 * (f1 (fv 79 25) 0) + f 92 (f1 (fv 79 22) 0) - 48; omega) | (show 0 ≤ f1 (fv 79 25) 0; omega)
                · first | (exfalso; omega) | (show 10 * (f1 (fv 79 25) 0) + f 92 (f1 (fv 79 22) 0) - 48 < 100000; omega) | (show f1 (fv 79 25) 0 < 100000; omega)
                · have h : f1 (fv 79 22) 0 + 1 - f1 (fv 79 23) 0 ≤ 4 := h
                  have q := (hvr (by omega)).2 (by omega)
                  have q2 := hva.2.2 (by omega)
                  show _ = vlI (f 92) (f1 (fv 79 23) 0) (f1 (fv 79 22) 0 + 1)
                  rw [vlI_s (by omega), ← q2]
                  first | (show 10 * (f1 (fv 79 25) 0) + f 92 (f1 (fv 79 22) 0) - 48 = _; omega) | (exfalso; omega)
              · omega
            · refine Or.inl ⟨show inr ((10 * (f1 (fv 79 25) 0)) + (-1)) from by constructor <;> omega, ?_⟩
              refine Or.inl ⟨show inr (((10 * (f1 (fv 79 25) 0)) + (-1)) - 48) from by constructor <;> omega, ?_⟩
              refine Or.inl ⟨show inr ((f1 (fv 79 22) 0) + 1) from by constructor <;> omega, ?_⟩
              have q2 : (wv (wv f1 (fv 79 25) 0 (((10 * (f1 (fv 79 25) 0)) + (-1)) - 48)) (fv 79 22) 0 ((f1 (fv 79 22) 0) + 1)) (fv 79 22) 0 = ((f1 (fv 79 22) 0) + 1) := rfl
              refine hB (900 - ((wv (wv f1 (fv 79 25) 0 (((10 * (f1 (fv 79 25) 0)) + (-1)) - 48)) (fv 79 22) 0 ((f1 (fv 79 22) 0) + 1)) (fv 79 22) 0) : Int).toNat ?_ (Or.inr (Or.inr (⟨rfl, cc9, (wv (wv f1 (fv 79 25) 0 (((10 * (f1 (fv 79 25) 0)) + (-1)) - 48)) (fv 79 22) 0 ((f1 (fv 79 22) 0) + 1)), rfl, rfl, (mx_wv rfl (mx_wv rfl rfl)), rfl, ?_, ?_, ?_, ?_, ?_, ?_, ?_, ?_, ?_⟩)))
              · omega
              · exact hfr
              · exact htk
              · exact ⟨by show f1 (fv 79 23) 0 + 1 ≤ f1 (fv 79 22) 0 + 1; omega, by show f1 (fv 79 22) 0 + 1 ≤ _; omega⟩
              · exact hlt
              · exact hdg
              · rw [show ent (f 92) (f (fv 79 21) 0) ((wv (wv f1 (fv 79 25) 0 (((10 * (f1 (fv 79 25) 0)) + (-1)) - 48)) (fv 79 22) 0 ((f1 (fv 79 22) 0) + 1)) (fv 79 23) 0) = ent (f 92) (f (fv 79 21) 0) (f1 (fv 79 23) 0) from rfl, hen]; exact wlk_t (p := fun k => dgt (f 92 k)) (by omega) hl9
              · intro x (h0 : f1 (fv 79 23) 0 ≤ x) (h1 : x < f1 (fv 79 22) 0 + 1)
                by_cases e : x = f1 (fv 79 22) 0
                · rw [e]; exact hl9
                · exact hal x h0 (by omega)
              · have hd9 := dgt_t.mp hl9
                refine ⟨?_, ?_, fun h => ?_⟩
                · first | (exfalso; omega) | (show 0 ≤ 10 * (f1 (fv 79 25) 0) + f 92 (f1 (fv 79 22) 0) - 48; omega) | (show 0 ≤ f1 (fv 79 25) 0; omega)
                · first | (exfalso; omega) | (show 10 * (f1 (fv 79 25) 0) + f 92 (f1 (fv 79 22) 0) - 48 < 100000; omega) | (show f1 (fv 79 25) 0 < 100000; omega)
                · have h : f1 (fv 79 22) 0 + 1 - f1 (fv 79 23) 0 ≤ 4 := h
                  have q := (hvr (by omega)).2 (by omega)
                  have q2 := hva.2.2 (by omega)
                  show _ = vlI (f 92) (f1 (fv 79 23) 0) (f1 (fv 79 22) 0 + 1)
                  rw [vlI_s (by omega), ← q2]
                  first | (show 10 * (f1 (fv 79 25) 0) + f 92 (f1 (fv 79 22) 0) - 48 = _; omega) | (exfalso; omega)
              · omega
          · refine Or.inl ⟨show inr ((f1 (fv 79 22) 0) + 1) from by constructor <;> omega, ?_⟩
            have q2 : (wv (wv f1 (fv 79 25) 0 (f1 (fv 79 25) 0)) (fv 79 22) 0 ((f1 (fv 79 22) 0) + 1)) (fv 79 22) 0 = ((f1 (fv 79 22) 0) + 1) := rfl
            refine hB (900 - ((wv (wv f1 (fv 79 25) 0 (f1 (fv 79 25) 0)) (fv 79 22) 0 ((f1 (fv 79 22) 0) + 1)) (fv 79 22) 0) : Int).toNat ?_ (Or.inr (Or.inr (⟨rfl, cc9, (wv (wv f1 (fv 79 25) 0 (f1 (fv 79 25) 0)) (fv 79 22) 0 ((f1 (fv 79 22) 0) + 1)), rfl, rfl, (mx_wv rfl (mx_wv rfl rfl)), rfl, ?_, ?_, ?_, ?_, ?_, ?_, ?_, ?_, ?_⟩)))
            · omega
            · exact hfr
            · exact htk
            · exact ⟨by show f1 (fv 79 23) 0 + 1 ≤ f1 (fv 79 22) 0 + 1; omega, by show f1 (fv 79 22) 0 + 1 ≤ _; omega⟩
            · exact hlt
            · exact hdg
            · rw [show ent (f 92) (f (fv 79 21) 0) ((wv (wv f1 (fv 79 25) 0 (f1 (fv 79 25) 0)) (fv 79 22) 0 ((f1 (fv 79 22) 0) + 1)) (fv 79 23) 0) = ent (f 92) (f (fv 79 21) 0) (f1 (fv 79 23) 0) from rfl, hen]; exact wlk_t (p := fun k => dgt (f 92 k)) (by omega) hl9
            · intro x (h0 : f1 (fv 79 23) 0 ≤ x) (h1 : x < f1 (fv 79 22) 0 + 1)
              by_cases e : x = f1 (fv 79 22) 0
              · rw [e]; exact hl9
              · exact hal x h0 (by omega)
            · have hd9 := dgt_t.mp hl9
              refine ⟨?_, ?_, fun h => ?_⟩
              · first | (exfalso; omega) | (show 0 ≤ 10 * (f1 (fv 79 25) 0) + f 92 (f1 (fv 79 22) 0) - 48; omega) | (show 0 ≤ f1 (fv 79 25) 0; omega)
              · first | (exfalso; omega) | (show 10 * (f1 (fv 79 25) 0) + f 92 (f1 (fv 79 22) 0) - 48 < 100000; omega) | (show f1 (fv 79 25) 0 < 100000; omega)
              · have h : f1 (fv 79 22) 0 + 1 - f1 (fv 79 23) 0 ≤ 4 := h
                have q := (hvr (by omega)).2 (by omega)
                have q2 := hva.2.2 (by omega)
                show _ = vlI (f 92) (f1 (fv 79 23) 0) (f1 (fv 79 22) 0 + 1)
                rw [vlI_s (by omega), ← q2]
                first | (show 10 * (f1 (fv 79 25) 0) + f 92 (f1 (fv 79 22) 0) - 48 = _; omega) | (exfalso; omega)
            · omega
        · have hnl : ¬ (f1 (fv 79 22) 0 < f (fv 79 21) 0 ∧ dgt (f 92 (f1 (fv 79 22) 0)) = true) := fun q => by have := dgt_t.mp q.2; omega
          refine ⟨fun _ => ?_, fun h => absurd (show (0 : Int) = 0 from by decide) h⟩
          refine Or.inl ⟨show inr ((f1 (fv 79 22) 0) - (f1 (fv 79 23) 0)) from by constructor <;> omega, ?_⟩
          refine ⟨fun (hh_74 : ((f1 (fv 79 22) 0) - (f1 (fv 79 23) 0)) < 5) => ?_, fun (hh_74 : ¬ ((f1 (fv 79 22) 0) - (f1 (fv 79 23) 0)) < 5) => ?_⟩
          · have hent : ent (f 92) (f (fv 79 21) 0) (f1 (fv 79 23) 0) = f1 (fv 79 22) 0 := by rw [hen]; exact wlk_f hnl
            have hk := k0 ((wv f1 (fv 79 24) 0 3)) hfr.1 (by show f1 (fv 79 22) 0 = spP _ _ (f1 (fv 79 23) 0); unfold spP; rw [if_pos hfr.2.2, hent]) (by show tvP (kdP _ _ (f1 (fv 79 23) 0)) _ _; unfold kdP; rw [if_pos hfr.2.2, hent]; unfold kdI; rw [if_neg hlt, if_pos hdg]; first | (rw [if_neg (by omega), ← hva.2.2 (by omega)]; exact Or.inr (Or.inr (Or.inr (Or.inl ⟨by omega, by have := hvr (by omega); omega, rfl, (show f1 (fv 79 25) 0 = 1000 + f1 (fv 79 25) 0 - 1000 from by omega)⟩)))) | (rw [if_pos (by omega)]; exact Or.inr (Or.inl ⟨rfl, htk⟩)))
            rw [show mx [fv 79 22, fv 79 23, fv 79 24, fv 79 25] f (wv f1 (fv 79 24) 0 3) = (wv (mx [fv 79 22, fv 79 23, fv 79 24, fv 79 25] f f1) (fv 79 24) 0 3) from ((mx_wv rfl rfl)).symm] at hk
            exact hk
          · have hent : ent (f 92) (f (fv 79 21) 0) (f1 (fv 79 23) 0) = f1 (fv 79 22) 0 := by rw [hen]; exact wlk_f hnl
            have hk := k0 (f1) hfr.1 (by show f1 (fv 79 22) 0 = spP _ _ (f1 (fv 79 23) 0); unfold spP; rw [if_pos hfr.2.2, hent]) (by show tvP (kdP _ _ (f1 (fv 79 23) 0)) _ _; unfold kdP; rw [if_pos hfr.2.2, hent]; unfold kdI; rw [if_neg hlt, if_pos hdg]; first | (rw [if_neg (by omega), ← hva.2.2 (by omega)]; exact Or.inr (Or.inr (Or.inr (Or.inl ⟨by omega, by have := hvr (by omega); omega, rfl, (show f1 (fv 79 25) 0 = 1000 + f1 (fv 79 25) 0 - 1000 from by omega)⟩)))) | (rw [if_pos (by omega)]; exact Or.inr (Or.inl ⟨rfl, htk⟩)))
            exact hk
      · have hr9 := hh_67
        refine hO (c_isDigit (by omega) (fun (hh_75 : 48 ≤ (-1)) (hh_76 : (-1) ≤ 57) => ?_) (fun (hh_77 : ¬ (48 ≤ (-1) ∧ (-1) ≤ 57)) => ?_))
        · have hl9 : dgt (f 92 (f1 (fv 79 22) 0)) = true := by first | exact dgt_t.mpr ⟨hh_75, hh_76⟩ | (exfalso; omega)
          refine ⟨fun h => absurd (show (1 : Int) = 0 from h) (by decide), fun _ => ?_⟩
          refine ⟨fun (hh_78 : f1 (fv 79 25) 0 < 10000) => ?_, fun (hh_78 : ¬ f1 (fv 79 25) 0 < 10000) => ?_⟩
          · refine Or.inl ⟨show inr (10 * (f1 (fv 79 25) 0)) from by constructor <;> omega, ?_⟩
            refine hO (c_raw (by omega) (show 0 ≤ (f1 (fv 79 22) 0) from by omega) (show (f (fv 79 21) 0) ≤ 400 from by omega) (fun (hh_79 : (f1 (fv 79 22) 0) < (f (fv 79 21) 0)) => ?_) (fun (hh_80 : ¬ (f1 (fv 79 22) 0) < (f (fv 79 21) 0)) => ?_))
            · refine Or.inl ⟨show inr ((10 * (f1 (fv 79 25) 0)) + (f 92 (f1 (fv 79 22) 0))) from by constructor <;> omega, ?_⟩
              refine Or.inl ⟨show inr (((10 * (f1 (fv 79 25) 0)) + (f 92 (f1 (fv 79 22) 0))) - 48) from by constructor <;> omega, ?_⟩
              refine Or.inl ⟨show inr ((f1 (fv 79 22) 0) + 1) from by constructor <;> omega, ?_⟩
              have q2 : (wv (wv f1 (fv 79 25) 0 (((10 * (f1 (fv 79 25) 0)) + (f 92 (f1 (fv 79 22) 0))) - 48)) (fv 79 22) 0 ((f1 (fv 79 22) 0) + 1)) (fv 79 22) 0 = ((f1 (fv 79 22) 0) + 1) := rfl
              refine hB (900 - ((wv (wv f1 (fv 79 25) 0 (((10 * (f1 (fv 79 25) 0)) + (f 92 (f1 (fv 79 22) 0))) - 48)) (fv 79 22) 0 ((f1 (fv 79 22) 0) + 1)) (fv 79 22) 0) : Int).toNat ?_ (Or.inr (Or.inr (⟨rfl, cc9, (wv (wv f1 (fv 79 25) 0 (((10 * (f1 (fv 79 25) 0)) + (f 92 (f1 (fv 79 22) 0))) - 48)) (fv 79 22) 0 ((f1 (fv 79 22) 0) + 1)), rfl, rfl, (mx_wv rfl (mx_wv rfl rfl)), rfl, ?_, ?_, ?_, ?_, ?_, ?_, ?_, ?_, ?_⟩)))
              · omega
              · exact hfr
              · exact htk
              · exact ⟨by show f1 (fv 79 23) 0 + 1 ≤ f1 (fv 79 22) 0 + 1; omega, by show f1 (fv 79 22) 0 + 1 ≤ _; omega⟩
              · exact hlt
              · exact hdg
              · rw [show ent (f 92) (f (fv 79 21) 0) ((wv (wv f1 (fv 79 25) 0 (((10 * (f1 (fv 79 25) 0)) + (f 92 (f1 (fv 79 22) 0))) - 48)) (fv 79 22) 0 ((f1 (fv 79 22) 0) + 1)) (fv 79 23) 0) = ent (f 92) (f (fv 79 21) 0) (f1 (fv 79 23) 0) from rfl, hen]; exact wlk_t (p := fun k => dgt (f 92 k)) (by omega) hl9
              · intro x (h0 : f1 (fv 79 23) 0 ≤ x) (h1 : x < f1 (fv 79 22) 0 + 1)
                by_cases e : x = f1 (fv 79 22) 0
                · rw [e]; exact hl9
                · exact hal x h0 (by omega)
              · have hd9 := dgt_t.mp hl9
                refine ⟨?_, ?_, fun h => ?_⟩
                · first | (exfalso; omega) | (show 0 ≤ 10 * (f1 (fv 79 25) 0) + f 92 (f1 (fv 79 22) 0) - 48; omega) | (show 0 ≤ f1 (fv 79 25) 0; omega)
                · first | (exfalso; omega) | (show 10 * (f1 (fv 79 25) 0) + f 92 (f1 (fv 79 22) 0) - 48 < 100000; omega) | (show f1 (fv 79 25) 0 < 100000; omega)
                · have h : f1 (fv 79 22) 0 + 1 - f1 (fv 79 23) 0 ≤ 4 := h
                  have q := (hvr (by omega)).2 (by omega)
                  have q2 := hva.2.2 (by omega)
                  show _ = vlI (f 92) (f1 (fv 79 23) 0) (f1 (fv 79 22) 0 + 1)
                  rw [vlI_s (by omega), ← q2]
                  first | (show 10 * (f1 (fv 79 25) 0) + f 92 (f1 (fv 79 22) 0) - 48 = _; omega) | (exfalso; omega)
              · omega
            · refine Or.inl ⟨show inr ((10 * (f1 (fv 79 25) 0)) + (-1)) from by constructor <;> omega, ?_⟩
              refine Or.inl ⟨show inr (((10 * (f1 (fv 79 25) 0)) + (-1)) - 48) from by constructor <;> omega, ?_⟩
              refine Or.inl ⟨show inr ((f1 (fv 79 22) 0) + 1) from by constructor <;> omega, ?_⟩
              have q2 : (wv (wv f1 (fv 79 25) 0 (((10 * (f1 (fv 79 25) 0)) + (-1)) - 48)) (fv 79 22) 0 ((f1 (fv 79 22) 0) + 1)) (fv 79 22) 0 = ((f1 (fv 79 22) 0) + 1) := rfl
              refine hB (900 - ((wv (wv f1 (fv 79 25) 0 (((10 * (f1 (fv 79 25) 0)) + (-1)) - 48)) (fv 79 22) 0 ((f1 (fv 79 22) 0) + 1)) (fv 79 22) 0) : Int).toNat ?_ (Or.inr (Or.inr (⟨rfl, cc9, (wv (wv f1 (fv 79 25) 0 (((10 * (f1 (fv 79 25) 0)) + (-1)) - 48)) (fv 79 22) 0 ((f1 (fv 79 22) 0) + 1)), rfl, rfl, (mx_wv rfl (mx_wv rfl rfl)), rfl, ?_, ?_, ?_, ?_, ?_, ?_, ?_, ?_, ?_⟩)))
              · omega
              · exact hfr
              · exact htk
              · exact ⟨by show f1 (fv 79 23) 0 + 1 ≤ f1 (fv 79 22) 0 + 1; omega, by show f1 (fv 79 22) 0 + 1 ≤ _; omega⟩
              · exact hlt
              · exact hdg
              · rw [show ent (f 92) (f (fv 79 21) 0) ((wv (wv f1 (fv 79 25) 0 (((10 * (f1 (fv 79 25) 0)) + (-1)) - 48)) (fv 79 22) 0 ((f1 (fv 79 22) 0) + 1)) (fv 79 23) 0) = ent (f 92) (f (fv 79 21) 0) (f1 (fv 79 23) 0) from rfl, hen]; exact wlk_t (p := fun k => dgt (f 92 k)) (by omega) hl9
              · intro x (h0 : f1 (fv 79 23) 0 ≤ x) (h1 : x < f1 (fv 79 22) 0 + 1)
                by_cases e : x = f1 (fv 79 22) 0
                · rw [e]; exact hl9
                · exact hal x h0 (by omega)
              · have hd9 := dgt_t.mp hl9
                refine ⟨?_, ?_, fun h => ?_⟩
                · first | (exfalso; omega) | (show 0 ≤ 10 * (f1 (fv 79 25) 0) + f 92 (f1 (fv 79 22) 0) - 48; omega) | (show 0 ≤ f1 (fv 79 25) 0; omega)
                · first | (exfalso; omega) | (show 10 * (f1 (fv 79 25) 0) + f 92 (f1 (fv 79 22) 0) - 48 < 100000; omega) | (show f1 (fv 79 25) 0 < 100000; omega)
                · have h : f1 (fv 79 22) 0 + 1 - f1 (fv 79 23) 0 ≤ 4 := h
                  have q := (hvr (by omega)).2 (by omega)
                  have q2 := hva.2.2 (by omega)
                  show _ = vlI (f 92) (f1 (fv 79 23) 0) (f1 (fv 79 22) 0 + 1)
                  rw [vlI_s (by omega), ← q2]
                  first | (show 10 * (f1 (fv 79 25) 0) + f 92 (f1 (fv 79 22) 0) - 48 = _; omega) | (exfalso; omega)
              · omega
          · refine Or.inl ⟨show inr ((f1 (fv 79 22) 0) + 1) from by constructor <;> omega, ?_⟩
            have q2 : (wv (wv f1 (fv 79 25) 0 (f1 (fv 79 25) 0)) (fv 79 22) 0 ((f1 (fv 79 22) 0) + 1)) (fv 79 22) 0 = ((f1 (fv 79 22) 0) + 1) := rfl
            refine hB (900 - ((wv (wv f1 (fv 79 25) 0 (f1 (fv 79 25) 0)) (fv 79 22) 0 ((f1 (fv 79 22) 0) + 1)) (fv 79 22) 0) : Int).toNat ?_ (Or.inr (Or.inr (⟨rfl, cc9, (wv (wv f1 (fv 79 25) 0 (f1 (fv 79 25) 0)) (fv 79 22) 0 ((f1 (fv 79 22) 0) + 1)), rfl, rfl, (mx_wv rfl (mx_wv rfl rfl)), rfl, ?_, ?_, ?_, ?_, ?_, ?_, ?_, ?_, ?_⟩)))
            · omega
            · exact hfr
            · exact htk
            · exact ⟨by show f1 (fv 79 23) 0 + 1 ≤ f1 (fv 79 22) 0 + 1; omega, by show f1 (fv 79 22) 0 + 1 ≤ _; omega⟩
            · exact hlt
            · exact hdg
            · rw [show ent (f 92) (f (fv 79 21) 0) ((wv (wv f1 (fv 79 25) 0 (f1 (fv 79 25) 0)) (fv 79 22) 0 ((f1 (fv 79 22) 0) + 1)) (fv 79 23) 0) = ent (f 92) (f (fv 79 21) 0) (f1 (fv 79 23) 0) from rfl, hen]; exact wlk_t (p := fun k => dgt (f 92 k)) (by omega) hl9
            · intro x (h0 : f1 (fv 79 23) 0 ≤ x) (h1 : x < f1 (fv 79 22) 0 + 1)
              by_cases e : x = f1 (fv 79 22) 0
              · rw [e]; exact hl9
              · exact hal x h0 (by omega)
            · have hd9 := dgt_t.mp hl9
              refine ⟨?_, ?_, fun h => ?_⟩
              · first | (exfalso; omega) | (show 0 ≤ 10 * (f1 (fv 79 25) 0) + f 92 (f1 (fv 79 22) 0) - 48; omega) | (show 0 ≤ f1 (fv 79 25) 0; omega)
              · first | (exfalso; omega) | (show 10 * (f1 (fv 79 25) 0) + f 92 (f1 (fv 79 22) 0) - 48 < 100000; omega) | (show f1 (fv 79 25) 0 < 100000; omega)
              · have h : f1 (fv 79 22) 0 + 1 - f1 (fv 79 23) 0 ≤ 4 := h
                have q := (hvr (by omega)).2 (by omega)
                have q2 := hva.2.2 (by omega)
                show _ = vlI (f 92) (f1 (fv 79 23) 0) (f1 (fv 79 22) 0 + 1)
                rw [vlI_s (by omega), ← q2]
                first | (show 10 * (f1 (fv 79 25) 0) + f 92 (f1 (fv 79 22) 0) - 48 = _; omega) | (exfalso; omega)
            · omega
        · have hnl : ¬ (f1 (fv 79 22) 0 < f (fv 79 21) 0 ∧ dgt (f 92 (f1 (fv 79 22) 0)) = true) := fun q => by have := dgt_t.mp q.2; omega
          refine ⟨fun _ => ?_, fun h => absurd (show (0 : Int) = 0 from by decide) h⟩
          refine Or.inl ⟨show inr ((f1 (fv 79 22) 0) - (f1 (fv 79 23) 0)) from by constructor <;> omega, ?_⟩
          refine ⟨fun (hh_81 : ((f1 (fv 79 22) 0) - (f1 (fv 79 23) 0)) < 5) => ?_, fun (hh_81 : ¬ ((f1 (fv 79 22) 0) - (f1 (fv 79 23) 0)) < 5) => ?_⟩
          · have hent : ent (f 92) (f (fv 79 21) 0) (f1 (fv 79 23) 0) = f1 (fv 79 22) 0 := by rw [hen]; exact wlk_f hnl
            have hk := k0 ((wv f1 (fv 79 24) 0 3)) hfr.1 (by show f1 (fv 79 22) 0 = spP _ _ (f1 (fv 79 23) 0); unfold spP; rw [if_pos hfr.2.2, hent]) (by show tvP (kdP _ _ (f1 (fv 79 23) 0)) _ _; unfold kdP; rw [if_pos hfr.2.2, hent]; unfold kdI; rw [if_neg hlt, if_pos hdg]; first | (rw [if_neg (by omega), ← hva.2.2 (by omega)]; exact Or.inr (Or.inr (Or.inr (Or.inl ⟨by omega, by have := hvr (by omega); omega, rfl, (show f1 (fv 79 25) 0 = 1000 + f1 (fv 79 25) 0 - 1000 from by omega)⟩)))) | (rw [if_pos (by omega)]; exact Or.inr (Or.inl ⟨rfl, htk⟩)))
            rw [show mx [fv 79 22, fv 79 23, fv 79 24, fv 79 25] f (wv f1 (fv 79 24) 0 3) = (wv (mx [fv 79 22, fv 79 23, fv 79 24, fv 79 25] f f1) (fv 79 24) 0 3) from ((mx_wv rfl rfl)).symm] at hk
            exact hk
          · have hent : ent (f 92) (f (fv 79 21) 0) (f1 (fv 79 23) 0) = f1 (fv 79 22) 0 := by rw [hen]; exact wlk_f hnl
            have hk := k0 (f1) hfr.1 (by show f1 (fv 79 22) 0 = spP _ _ (f1 (fv 79 23) 0); unfold spP; rw [if_pos hfr.2.2, hent]) (by show tvP (kdP _ _ (f1 (fv 79 23) 0)) _ _; unfold kdP; rw [if_pos hfr.2.2, hent]; unfold kdI; rw [if_neg hlt, if_pos hdg]; first | (rw [if_neg (by omega), ← hva.2.2 (by omega)]; exact Or.inr (Or.inr (Or.inr (Or.inl ⟨by omega, by have := hvr (by omega); omega, rfl, (show f1 (fv 79 25) 0 = 1000 + f1 (fv 79 25) 0 - 1000 from by omega)⟩)))) | (rw [if_pos (by omega)]; exact Or.inr (Or.inl ⟨rfl, htk⟩)))
            exact hk
  · have htp1 := htp.1
    have q2 : f (fv 79 22) 0 = f (fv 79 22) 0 := rfl
    refine ⟨(1900 - (f (fv 79 22) 0) : Int).toNat, ?_, (Or.inl ⟨rfl, f, rfl, rfl, mx_rf, rfl, ?_, ?_, ?_⟩)⟩
    · omega
    · exact hsp
    · rfl
    · omega
end C42
