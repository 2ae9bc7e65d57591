section C18
variable {d : Nat} {f : iF} {g : iG} {Q : Option iv → iF → iG → Prop}
/-! ===== the reference: fewest ===== -/
def EaR (f : iF) : (Int → Int) → Prop := fun row => alE (aR f) (oR f) (f (fv 79 12) 0) (lwR f) (f 82) (f 83) (f 87) (f (fv 79 4) 0) row (f (fv 79 13) 0)
set_option maxRecDepth 100000 in
set_option maxHeartbeats 4000000 in
theorem c_mustEat {a : Int} (hd : 2 ≤ d) (ha : 0 ≤ a ∧ a < 8) (ho : (oB f)) (k0 : (mst (f 83) (f 87) (oR f) a) → Q (some (iI 1)) f g) (k1 : (¬ mst (f 83) (f 87) (oR f) a) → Q (some (iI 0)) f g) : wq d 63 [iR 79, iI a] f g Q := by
  obtain ⟨d, rfl⟩ : ∃ e, d = e + 1 := ⟨d - 1, by omega⟩
  refine i_meth [(10, 3)] (fun n j lv st f' g' => (j = 10 ∧ ∃ (s : Int), lv = [some (iR 79), some (iI a), some (iI s)] ∧ st = [] ∧ f = f' ∧ g = g' ∧ (0 ≤ s ∧ s ≤ 29) ∧ (¬ f 83 a = 1) ∧ (∀ k, 0 ≤ k → k < s → ¬ (f 86 k - 1 = a ∧ f 87 k = 0)) ∧ (n : Int) = 29 - s)) 29 (by omega) rfl rfl (fun n j lv st f' g' hn hI O J hO hF hB => ?_) (fun hvs hin O J hO hF => ?_)
  · obtain ⟨rfl, s, rfl, rfl, rfl, rfl, hs, h83, hz, hm⟩ := hI
    refine ⟨fun (hh_1 : s < 29) => ?_, fun (hh_1 : ¬ s < 29) => ?_⟩
    · refine hO (c_ownerOf (by omega) (show 0 ≤ s from by omega) (show s < 29 from by omega) (show (oB f) from ho) ?_)
      refine ⟨fun (hh_2 : (f 86 s) - 1 = a) => ?_, fun (hh_2 : ¬ (f 86 s) - 1 = a) => ?_⟩
      · refine ⟨show 0 ≤ (s : Int) ∧ s < 29 from by omega, ?_⟩
        refine ⟨fun (hh_3 : f 87 s = 0) => ?_, fun (hh_3 : ¬ f 87 s = 0) => ?_⟩
        · refine ⟨show (1 : Int) = 0 ∨ 1 = 1 from by decide, ?_⟩
          exact k0 (by exact ⟨h83, s, by omega, by omega, by assumption, by assumption⟩)
        · refine ⟨show inr (s + 1) from by constructor <;> omega, ?_⟩
          refine hB (29 - (s + 1) : Int).toNat ?_ ⟨rfl, (s + 1), rfl, rfl, rfl, rfl, ?_, ?_, ?_, ?_⟩
          · omega
          · omega
          · omega
          · intro k h0 h1
            by_cases e : k = s
            · rw [e]; omega
            · exact hz k h0 (by omega)
          · omega
      · refine ⟨show inr (s + 1) from by constructor <;> omega, ?_⟩
        refine hB (29 - (s + 1) : Int).toNat ?_ ⟨rfl, (s + 1), rfl, rfl, rfl, rfl, ?_, ?_, ?_, ?_⟩
        · omega
        · omega
        · omega
        · intro k h0 h1
          by_cases e : k = s
          · rw [e]; omega
          · exact hz k h0 (by omega)
        · omega
    · refine ⟨show (0 : Int) = 0 ∨ 0 = 1 from by decide, ?_⟩
      exact k1 (by exact fun h => by obtain ⟨-, t, t0, t1, t2, t3⟩ := h; exact hz t t0 (by omega) ⟨t2, t3⟩)
  · refine ⟨show 0 ≤ (a : Int) ∧ a < 8 from by omega, ?_⟩
    refine ⟨fun (hh_4 : f 83 a = 1) => ?_, fun (hh_4 : ¬ f 83 a = 1) => ?_⟩
    · refine ⟨show (0 : Int) = 0 ∨ 0 = 1 from by decide, ?_⟩
      exact k1 (by exact fun h => h.1 (by assumption))
    · refine hF (29 - 0 : Int).toNat ?_ ⟨rfl, 0, rfl, rfl, rfl, rfl, ?_, ?_, ?_, ?_⟩
      · omega
      · omega
      · omega
      · intro k h0 h1; omega
      · omega
set_option maxRecDepth 100000 in
set_option maxHeartbeats 4000000 in
theorem c_doAllEat (hd : 6 ≤ d) (hc : 0 ≤ (f (fv 79 4) 0) ∧ (f (fv 79 4) 0) ≤ 8) (hr : (rwB f)) (ho : (oB f)) (hl : (lB f)) (hday : 0 ≤ (f (fv 79 12) 0) ∧ (f (fv 79 12) 0) ≤ 9999) (k0 : ∀ f1 : iF, (alE (aR f) (oR f) (f (fv 79 12) 0) (lwR f) (f 82) (f 83) (f 87) (f (fv 79 4) 0) (f 89) (f (fv 79 15) 0)) → Q (some (iI 1)) (mx [100, 101, 102] f f1) g) (k1 : ∀ f1 : iF, (¬ alE (aR f) (oR f) (f (fv 79 12) 0) (lwR f) (f 82) (f 83) (f 87) (f (fv 79 4) 0) (f 89) (f (fv 79 15) 0)) → Q (some (iI 0)) (mx [100, 101, 102] f f1) g) : wq d 64 [iR 79] f g Q := by
  obtain ⟨d, rfl⟩ : ∃ e, d = e + 1 := ⟨d - 1, by omega⟩
  refine i_meth [(4, 2)] (fun n j lv st f' g' => (j = 4 ∧ ∃ (a : Int) (f1 : iF), lv = [some (iR 79), some (iI a)] ∧ st = [] ∧ f' = (mx [100, 101, 102] f f1) ∧ g = g' ∧ (0 ≤ a ∧ a ≤ f (fv 79 4) 0) ∧ (∀ a, 0 ≤ a → a < 8 → f1 102 a = enI (aR f) (oR f) (f (fv 79 12) 0) (lwR f) (f 89) (f (fv 79 15) 0) a) ∧ (∀ k, 0 ≤ k → k < a → mst (f 83) (f 87) (oR f) k → f 82 k ≤ enI (aR f) (oR f) (f (fv 79 12) 0) (lwR f) (f 89) (f (fv 79 15) 0) k) ∧ (n : Int) = f (fv 79 4) 0 - a)) 8 (by omega) rfl rfl (fun n j lv st f' g' hn hI O J hO hF hB => ?_) (fun hvs hin O J hO hF => ?_)
  · obtain ⟨rfl, a, f1, rfl, rfl, rfl, rfl, ha, hE, hz, hm⟩ := hI
    refine ⟨fun (hh_1 : a < f (fv 79 4) 0) => ?_, fun (hh_1 : ¬ a < f (fv 79 4) 0) => ?_⟩
    · have hEk := hE a (by omega) (by omega)
      refine ⟨show 0 ≤ (a : Int) ∧ a < 8 from by omega, ?_⟩
      refine ⟨show 0 ≤ (a : Int) ∧ a < 8 from by omega, ?_⟩
      refine ⟨fun (hh_2 : f1 102 a < f 82 a) => ?_, fun (hh_2 : ¬ f1 102 a < f 82 a) => ?_⟩
      · refine hO (c_mustEat (by omega) (show 0 ≤ a ∧ a < 8 from by omega) (show (oB f) from ho) (fun (hh_3 : mst (f 83) (f 87) (oR f) a) => ?_) (fun (hh_4 : ¬ mst (f 83) (f 87) (oR f) a) => ?_))
        · refine ⟨fun h => absurd (show (1 : Int) = 0 from h) (by decide), fun _ => ?_⟩
          refine ⟨show (0 : Int) = 0 ∨ 0 = 1 from by decide, ?_⟩
          exact k1 f1 (fun h => by have := h a (by omega) (by omega) (by assumption); omega)
        · refine ⟨fun _ => ?_, fun h => absurd (show (0 : Int) = 0 from by decide) h⟩
          refine ⟨show inr (a + 1) from by constructor <;> omega, ?_⟩
          refine hB (f (fv 79 4) 0 - (a + 1) : Int).toNat ?_ ⟨rfl, (a + 1), f1, rfl, rfl, rfl, rfl, ?_, ?_, ?_, ?_⟩
          · omega
          · omega
          · exact hE
          · intro k h0 h1 hmk
            by_cases e : k = a
            · rw [e]; rw [e] at hmk; first | exact absurd hmk (by assumption) | omega
            · exact hz k h0 (by omega) hmk
          · omega
      · refine ⟨show inr (a + 1) from by constructor <;> omega, ?_⟩
        refine hB (f (fv 79 4) 0 - (a + 1) : Int).toNat ?_ ⟨rfl, (a + 1), f1, rfl, rfl, rfl, rfl, ?_, ?_, ?_, ?_⟩
        · omega
        · omega
        · exact hE
        · intro k h0 h1 hmk
          by_cases e : k = a
          · rw [e]; rw [e] at hmk; first | exact absurd hmk (by assumption) | omega
          · exact hz k h0 (by omega) hmk
        · omega
    · refine ⟨show (1 : Int) = 0 ∨ 1 = 1 from by decide, ?_⟩
      exact k0 f1 (fun a2 h0 h1 h2 => hz a2 h0 (by omega) h2)
  · refine hO (c_finds (by omega) (show (rwB f) from hr) (show (oB f) from ho) (show (lB f) from hl) (show 0 ≤ (f (fv 79 12) 0) ∧ (f (fv 79 12) 0) ≤ 9999 from hday) (fun f1_5 (hh_6 : ∀ a, 0 ≤ a → a < 8 → f1_5 102 a = enI (aR f) (oR f) (f (fv 79 12) 0) (lwR f) (f 89) (f (fv 79 15) 0) a) => ?_))
    have hea := hh_6
    refine hF (f (fv 79 4) 0 - 0 : Int).toNat ?_ ⟨rfl, 0, f1_5, rfl, rfl, rfl, rfl, ?_, ?_, ?_, ?_⟩
    · omega
    · omega
    · exact hea
    · intro k h0 h1; omega
    · omega
theorem EaR_up {f : iF} {row : Int → Int} {n i s : Int} (hn : n = f (fv 79 13) 0) (hrow : ∀ k, 0 ≤ k → k < f (fv 79 13) 0 → ¬ k = i → row k = f 88 k) (hi : row i = s) : alE (aR f) (oR f) (f (fv 79 12) 0) (lwR f) (f 82) (f 83) (f 87) (f (fv 79 4) 0) row n ↔ EaR f (up (f 88) i s) := by
  subst hn
  exact alE_cg (fun k h0 h1 => by
    by_cases e : k = i
    · rw [e, up_s, hi]
    · rw [up_n e]; exact hrow k h0 h1 e)
theorem EaR_up2 {f : iF} {row : Int → Int} {n i j s t : Int} (hn : n = f (fv 79 13) 0) (hij : i < j) (hrow : ∀ k, 0 ≤ k → k < f (fv 79 13) 0 → ¬ k = i → ¬ k = j → row k = f 88 k) (hi : row i = s) (hj : row j = t) : alE (aR f) (oR f) (f (fv 79 12) 0) (lwR f) (f 82) (f 83) (f 87) (f (fv 79 4) 0) row n ↔ EaR f (up (up (f 88) i s) j t) := by
  subst hn
  exact alE_cg (fun k h0 h1 => by
    by_cases e2 : k = j
    · rw [e2, up_s, hj]
    · rw [up_n e2]
      by_cases e : k = i
      · rw [e, up_s, hi]
      · rw [up_n e]; exact hrow k h0 h1 e e2)
theorem rwB_up {F f : iF} {i s : Int} (hn : F (fv 79 15) 0 = f (fv 79 13) 0) (hrow : ∀ k, 0 ≤ k → k < f (fv 79 13) 0 → F 89 k = up (f 88) i s k) (hs : 0 ≤ s ∧ s ≤ 29) (hg : pgB f) : rwB F := ⟨by rw [hn]; exact hg.1, fun k h0 h1 => by
  rw [hn] at h1
  rw [hrow k h0 h1]
  by_cases e : k = i
  · rw [e, up_s]; exact hs
  · rw [up_n e]; exact hg.2 k h0 h1⟩
theorem rwB_up2 {F f : iF} {i s j t : Int} (hn : F (fv 79 15) 0 = f (fv 79 13) 0) (hrow : ∀ k, 0 ≤ k → k < f (fv 79 13) 0 → F 89 k = up (up (f 88) i s) j t k) (hs : 0 ≤ s ∧ s ≤ 29) (ht : 0 ≤ t ∧ t ≤ 29) (hg : pgB f) : rwB F := ⟨by rw [hn]; exact hg.1, fun k h0 h1 => by
  rw [hn] at h1
  rw [hrow k h0 h1]
  by_cases e : k = j
  · rw [e, up_s]; exact ht
  · rw [up_n e]
    by_cases e : k = i
    · rw [e, up_s]; exact hs
    · rw [up_n e]; exact hg.2 k h0 h1⟩
set_option maxRecDepth 100000 in
set_option maxHeartbeats 4000000 in
theorem c_one {i : Int} (hd : 7 ≤ d) (hi : 0 ≤ i ∧ i < (f (fv 79 13) 0) ∧ ¬ (f 88 i) = 29) (hc : 0 ≤ (f (fv 79 4) 0) ∧ (f (fv 79 4) 0) ≤ 8) (hg : (pgB f)) (ho : (oB f)) (hl : (lB f)) (hday : 0 ≤ (f (fv 79 12) 0) ∧ (f (fv 79 12) 0) ≤ 9999) (hnr : (f (fv 79 15) 0) = (f (fv 79 13) 0)) (hrow : ∀ k, 0 ≤ k → k < (f (fv 79 13) 0) → (f 89 k) = (f 88 k)) (k0 : ∀ f1 : iF, (sol1 (EaR f) (f 88) (f (fv 79 13) 0) i (f1 (fv 79 45) 0)) → (∀ t, sol1 (EaR f) (f 88) (f (fv 79 13) 0) i t → f1 (fv 79 45) 0 ≤ t) → (∀ k, 0 ≤ k → k < (f (fv 79 13) 0) → f1 89 k = (f 88 k)) → Q (some (iI 1)) (mx [89, 100, 101, 102, fv 79 45] f f1) g) (k1 : ∀ f1 : iF, (∀ t, ¬ sol1 (EaR f) (f 88) (f (fv 79 13) 0) i t) → (∀ k, 0 ≤ k → k < (f (fv 79 13) 0) → f1 89 k = (f 88 k)) → Q (some (iI 0)) (mx [89, 100, 101, 102, fv 79 45] f f1) g) : wq d 65 [iR 79, iI i] f g Q := by
  obtain ⟨d, rfl⟩ : ∃ e, d = e + 1 := ⟨d - 1, by omega⟩
  refine i_meth [(2, 3)] (fun n j lv st f' g' => (j = 2 ∧ ∃ (s : Int) (f1 : iF), lv = [some (iR 79), some (iI i), some (iI s)] ∧ st = [] ∧ f' = (mx [89, 100, 101, 102, fv 79 45] f f1) ∧ g = g' ∧ (0 ≤ s ∧ s ≤ 29) ∧ (∀ t, t < s → ¬ sol1 (EaR f) (f 88) (f (fv 79 13) 0) i t) ∧ (∀ k, 0 ≤ k → k < (f (fv 79 13) 0) → f1 89 k = f 88 k) ∧ (n : Int) = 29 - s)) 29 (by omega) rfl rfl (fun n j lv st f' g' hn hI O J hO hF hB => ?_) (fun hvs hin O J hO hF => ?_)
  · obtain ⟨rfl, s, f1, rfl, rfl, rfl, rfl, hs, hz, hrw, hm⟩ := hI
    have hg1 := hg.1
    have hup : ∀ k, 0 ≤ k → k < (f (fv 79 13) 0) → wv f1 89 i s 89 k = up (f 88) i s k := fun k h0 h1 => by
      rw [wv_i]
      unfold up
      rw [hrw k h0 h1]
    refine ⟨fun (hh_1 : s < 29) => ?_, fun (hh_1 : ¬ s < 29) => ?_⟩
    · refine ⟨show 0 ≤ (i : Int) ∧ i < 60 from by omega, ?_⟩
      refine ⟨show 0 ≤ (i : Int) ∧ i < 60 from by omega, ?_⟩
      refine ⟨fun (hh_2 : s = f 88 i) => ?_, fun (hh_2 : ¬ s = f 88 i) => ?_⟩
      · have hno : ¬ sol1 (EaR f) (f 88) (f (fv 79 13) 0) i s := fun h => h.2.2.2.2.2.1 hh_2
        refine ⟨show 0 ≤ (i : Int) ∧ i < 60 from by omega, ?_⟩
        refine ⟨show 0 ≤ (i : Int) ∧ i < 60 from by omega, ?_⟩
        refine ⟨fun _ => ?_, fun h => absurd (show (0 : Int) = 0 from by decide) h⟩
        refine ⟨show inr (s + 1) from by constructor <;> omega, ?_⟩
        refine hB (29 - (s + 1) : Int).toNat ?_ ⟨rfl, (s + 1), (wv (wv (wv f1 89 i s) 89 i (f 88 i)) (fv 79 45) 0 s), rfl, rfl, (mx_wv rfl (mx_wv rfl (mx_wv rfl rfl))), rfl, ?_, ?_, ?_, ?_⟩
        · omega
        · omega
        · intro t h0 h1
          by_cases e : t = s
          · rw [e] at h1; exact hno h1
          · exact hz t (by omega) h1
        · intro k h0 h1
          show (wv (wv f1 89 i s) 89 i (f 88 i)) 89 k = _
          rw [wv_i]
          by_cases e : k = i
          · rw [if_pos e, e]
          · rw [if_neg e]
            show wv f1 89 i s 89 k = _
            rw [wv_k e]; exact hrw k h0 h1
        · omega
      · refine hO (c_doAllEat (by omega) (show 0 ≤ (f (fv 79 4) 0) ∧ (f (fv 79 4) 0) ≤ 8 from hc) (show (rwB (wv (mx [89, 100, 101, 102, fv 79 45] f f1) 89 i s)) from rwB_up hnr hup (by omega) hg) (show (oB f) from ho) (show (lB f) from hl) (show 0 ≤ (f (fv 79 12) 0) ∧ (f (fv 79 12) 0) ≤ 9999 from hday) (fun f1_3 (hh_4 : alE (aR f) (oR f) (f (fv 79 12) 0) (lwR f) (f 82) (f 83) (f 87) (f (fv 79 4) 0) ((wv (mx [89, 100, 101, 102, fv 79 45] f f1) 89 i s) 89) (f (fv 79 15) 0)) => ?_) (fun f1_5 (hh_6 : ¬ alE (aR f) (oR f) (f (fv 79 12) 0) (lwR f) (f 82) (f 83) (f 87) (f (fv 79 4) 0) ((wv (mx [89, 100, 101, 102, fv 79 45] f f1) 89 i s) 89) (f (fv 79 15) 0)) => ?_))
        · have hyes : sol1 (EaR f) (f 88) (f (fv 79 13) 0) i s := ⟨hi.1, hi.2.1, hi.2.2, by omega, by omega, by assumption, (EaR_up hnr (fun k h0 h1 e => (wv_k e).trans (hrw k h0 h1)) wv_s).mp hh_4⟩
          refine ⟨fun h => absurd (show (1 : Int) = 0 from h) (by decide), fun _ => ?_⟩
          refine ⟨show 0 ≤ (i : Int) ∧ i < 60 from by omega, ?_⟩
          refine ⟨show 0 ≤ (i : Int) ∧ i < 60 from by omega, ?_⟩
          refine ⟨fun h => absurd (show (1 : Int) = 0 from h) (by decide), fun _ => ?_⟩
          refine ⟨show (1 : Int) = 0 ∨ 1 = 1 from by decide, ?_⟩
          have hk := k0 (wv (wv (mx [100, 101, 102] (wv f1 89 i s) f1_3) 89 i (f 88 i)) (fv 79 45) 0 s) hyes (fun t ht => by by_cases e : t < s; exact absurd ht (hz t e); show s ≤ t; omega) (by
            intro k h0 h1
            show (wv (mx [100, 101, 102] (wv f1 89 i s) f1_3) 89 i (f 88 i)) 89 k = _
            rw [wv_i]
            by_cases e : k = i
            · rw [if_pos e, e]
            · rw [if_neg e]
              show wv f1 89 i s 89 k = _
              rw [wv_k e]; exact hrw k h0 h1)
          rw [show mx [89, 100, 101, 102, fv 79 45] f (wv (wv (mx [100, 101, 102] (wv f1 89 i s) f1_3) 89 i (f 88 i)) (fv 79 45) 0 s) = (wv (wv (mx [100, 101, 102] (wv (mx [89, 100, 101, 102, fv 79 45] f f1) 89 i s) f1_3) 89 i (f 88 i)) (fv 79 45) 0 s) from ((mx_wv rfl (mx_wv rfl (mx_mx rfl (mx_wv rfl rfl))))).symm] at hk
          exact hk
        · have hno : ¬ sol1 (EaR f) (f 88) (f (fv 79 13) 0) i s := fun h => hh_6 ((EaR_up hnr (fun k h0 h1 e => (wv_k e).trans (hrw k h0 h1)) wv_s).mpr h.2.2.2.2.2.2)
          refine ⟨fun _ => ?_, fun h => absurd (show (0 : Int) = 0 from by decide) h⟩
          refine ⟨show 0 ≤ (i : Int) ∧ i < 60 from by omega, ?_⟩
          refine ⟨show 0 ≤ (i : Int) ∧ i < 60 from by omega, ?_⟩
          refine ⟨fun _ => ?_, fun h => absurd (show (0 : Int) = 0 from by decide) h⟩
          refine ⟨show inr (s + 1) from by constructor <;> omega, ?_⟩
          refine hB (29 - (s + 1) : Int).toNat ?_ ⟨rfl, (s + 1), (wv (wv (mx [100, 101, 102] (wv f1 89 i s) f1_5) 89 i (f 88 i)) (fv 79 45) 0 s), rfl, rfl, (mx_wv rfl (mx_wv rfl (mx_mx rfl (mx_wv rfl rfl)))), rfl, ?_, ?_, ?_, ?_⟩
          · omega
          · omega
          · intro t h0 h1
            by_cases e : t = s
            · rw [e] at h1; exact hno h1
            · exact hz t (by omega) h1
          · intro k h0 h1
            show (wv (mx [100, 101, 102] (wv f1 89 i s) f1_5) 89 i (f 88 i)) 89 k = _
            rw [wv_i]
            by_cases e : k = i
            · rw [if_pos e, e]
            · rw [if_neg e]
              show wv f1 89 i s 89 k = _
              rw [wv_k e]; exact hrw k h0 h1
          · omega
    · refine ⟨show (0 : Int) = 0 ∨ 0 = 1 from by decide, ?_⟩
      exact k1 f1 (fun t ht => by by_cases e : t < s; exact hz t e ht; exact absurd ht.2.2.2.2.1 (by omega)) hrw
  · have hg1 := hg.1
    refine hF (29 - 0 : Int).toNat ?_ ⟨rfl, 0, f, rfl, rfl, mx_rf, rfl, ?_, ?_, ?_, ?_⟩
    · omega
    · omega
    · intro t h0 h1; exact absurd h1.2.2.2.1 (by omega)
    · exact hrow
    · omega
set_option maxRecDepth 100000 in
set_option maxHeartbeats 4000000 in
theorem c_two {i jj : Int} (hd : 7 ≤ d) (hi : 0 ≤ i ∧ i < jj ∧ jj < (f (fv 79 13) 0) ∧ ¬ (f 88 i) = 29 ∧ ¬ (f 88 jj) = 29) (hc : 0 ≤ (f (fv 79 4) 0) ∧ (f (fv 79 4) 0) ≤ 8) (hg : (pgB f)) (ho : (oB f)) (hl : (lB f)) (hday : 0 ≤ (f (fv 79 12) 0) ∧ (f (fv 79 12) 0) ≤ 9999) (hnr : (f (fv 79 15) 0) = (f (fv 79 13) 0)) (hrow : ∀ k, 0 ≤ k → k < (f (fv 79 13) 0) → (f 89 k) = (f 88 k)) (k0 : ∀ f1 : iF, (sol2 (EaR f) (f 88) (f (fv 79 13) 0) i jj (f1 (fv 79 45) 0) (f1 (fv 79 46) 0)) → (∀ s t, sol2 (EaR f) (f 88) (f (fv 79 13) 0) i jj s t → f1 (fv 79 45) 0 < s ∨ (f1 (fv 79 45) 0 = s ∧ f1 (fv 79 46) 0 ≤ t)) → (∀ k, 0 ≤ k → k < (f (fv 79 13) 0) → f1 89 k = (f 88 k)) → Q (some (iI 1)) (mx [89, 100, 101, 102, fv 79 45, fv 79 46] f f1) g) (k1 : ∀ f1 : iF, (∀ s t, ¬ sol2 (EaR f) (f 88) (f (fv 79 13) 0) i jj s t) → (∀ k, 0 ≤ k → k < (f (fv 79 13) 0) → f1 89 k = (f 88 k)) → Q (some (iI 0)) (mx [89, 100, 101, 102, fv 79 45, fv 79 46] f f1) g) : wq d 66 [iR 79, iI i, iI jj] f g Q := by
  obtain ⟨d, rfl⟩ : ∃ e, d = e + 1 := ⟨d - 1, by omega⟩
  refine i_meth [(2, 4), (14, 5)] (fun n j lv st f' g' => (j = 2 ∧ ∃ (s : Int) (f1 : iF), lv = [some (iR 79), some (iI i), some (iI jj), some (iI s)] ∧ st = [] ∧ f' = (mx [89, 100, 101, 102, fv 79 45, fv 79 46] f f1) ∧ g = g' ∧ (0 ≤ s ∧ s ≤ 29) ∧ (∀ s2 t2, s2 < s → ¬ sol2 (EaR f) (f 88) (f (fv 79 13) 0) i jj s2 t2) ∧ (∀ k, 0 ≤ k → k < (f (fv 79 13) 0) → f1 89 k = f 88 k) ∧ (n : Int) = (29 - s) * 31) ∨ (j = 14 ∧ ∃ (s : Int) (t : Int) (f1 : iF), lv = [some (iR 79), some (iI i), some (iI jj), some (iI s), some (iI t)] ∧ st = [] ∧ f' = (mx [89, 100, 101, 102, fv 79 45, fv 79 46] f f1) ∧ g = g' ∧ (0 ≤ s ∧ s < 29 ∧ 0 ≤ t ∧ t ≤ 29 ∧ ¬ s = f 88 i) ∧ (∀ s2 t2, s2 < s → ¬ sol2 (EaR f) (f 88) (f (fv 79 13) 0) i jj s2 t2) ∧ (∀ t2, t2 < t → ¬ sol2 (EaR f) (f 88) (f (fv 79 13) 0) i jj s t2) ∧ (∀ k, 0 ≤ k → k < (f (fv 79 13) 0) → f1 89 k = f 88 k) ∧ (n : Int) = (29 - s) * 31 - t)) 1000 (by omega) rfl rfl (fun n j lv st f' g' hn hI O J hO hF hB => ?_) (fun hvs hin O J hO hF => ?_)
  · rcases hI with hI | hI
    · obtain ⟨rfl, s, f1, rfl, rfl, rfl, rfl, hs, hz, hrw, hm⟩ := hI
      have hg1 := hg.1
      refine ⟨fun (hh_1 : s < 29) => ?_, fun (hh_1 : ¬ s < 29) => ?_⟩
      · refine ⟨show 0 ≤ (i : Int) ∧ i < 60 from by omega, ?_⟩
        refine ⟨fun (hh_2 : s = f 88 i) => ?_, fun (hh_2 : ¬ s = f 88 i) => ?_⟩
        · refine ⟨show inr (s + 1) from by constructor <;> omega, ?_⟩
          refine hB ((29 - (s + 1)) * 31 : Int).toNat ?_ (Or.inl ⟨rfl, (s + 1), f1, rfl, rfl, rfl, rfl, ?_, ?_, ?_, ?_⟩)
          · omega
          · omega
          · intro s2 t2 h0 h1
            by_cases e : s2 = s
            · rw [e] at h1; first | exact h1.2.2.2.2.2.2.2.1 (by assumption) | (by_cases e3 : t2 < t; exact hzt t2 e3 h1; exact absurd h1.2.2.2.2.2.2.2.2.2.1 (by omega))
            · exact hz s2 t2 (by omega) h1
          · exact hrw
          · omega
        · refine hF ((29 - s) * 31 - 0 : Int).toNat ?_ (Or.inr (⟨rfl, s, 0, f1, rfl, rfl, rfl, rfl, ?_, ?_, ?_, ?_, ?_⟩))
          · omega
          · omega
          · exact hz
          · intro t2 h0 h1; exact absurd h1.2.2.2.2.2.2.2.2.1 (by omega)
          · exact hrw
          · omega
      · refine ⟨show (0 : Int) = 0 ∨ 0 = 1 from by decide, ?_⟩
        exact k1 f1 (fun s2 t2 h2 => by by_cases e : s2 < s; exact hz s2 t2 e h2; exact absurd h2.2.2.2.2.2.2.1 (by omega)) hrw
    · obtain ⟨rfl, s, t, f1, rfl, rfl, rfl, rfl, hs, hz, hzt, hrw, hm⟩ := hI
      have hg1 := hg.1
      have hup : ∀ k, 0 ≤ k → k < (f (fv 79 13) 0) → wv (wv f1 89 i s) 89 jj t 89 k = up (up (f 88) i s) jj t k := fun k h0 h1 => by
        rw [wv_i]
        unfold up
        by_cases e : k = jj
        · rw [if_pos e, if_pos e]
        · rw [if_neg e, if_neg e]
          show wv f1 89 i s 89 k = _
          rw [wv_i, hrw k h0 h1]
      refine ⟨fun (hh_3 : t < 29) => ?_, fun (hh_3 : ¬ t < 29) => ?_⟩
      · refine ⟨show 0 ≤ (jj : Int) ∧ jj < 60 from by omega, ?_⟩
        refine ⟨fun (hh_4 : t = f 88 jj) => ?_, fun (hh_4 : ¬ t = f 88 jj) => ?_⟩
        · have hno : ¬ sol2 (EaR f) (f 88) (f (fv 79 13) 0) i jj s t := fun h => h.2.2.2.2.2.2.2.2.2.2.1 hh_4
          refine ⟨show inr (t + 1) from by constructor <;> omega, ?_⟩
          refine hB ((29 - s) * 31 - (t + 1) : Int).toNat ?_ (Or.inr (⟨rfl, s, (t + 1), f1, rfl, rfl, rfl, rfl, ?_, ?_, ?_, ?_, ?_⟩))
          · omega
          · omega
          · exact hz
          · intro t2 h0 h1
            by_cases e : t2 = t
            · rw [e] at h1; exact hno h1
            · exact hzt t2 (by omega) h1
          · exact hrw
          · omega
        · refine ⟨show 0 ≤ (i : Int) ∧ i < 60 from by omega, ?_⟩
          refine ⟨show 0 ≤ (jj : Int) ∧ jj < 60 from by omega, ?_⟩
          refine hO (c_doAllEat (by omega) (show 0 ≤ (f (fv 79 4) 0) ∧ (f (fv 79 4) 0) ≤ 8 from hc) (show (rwB (wv (wv (mx [89, 100, 101, 102, fv 79 45, fv 79 46] f f1) 89 i s) 89 jj t)) from rwB_up2 hnr hup (by omega) (by omega) hg) (show (oB f) from ho) (show (lB f) from hl) (show 0 ≤ (f (fv 79 12) 0) ∧ (f (fv 79 12) 0) ≤ 9999 from hday) (fun f1_5 (hh_6 : alE (aR f) (oR f) (f (fv 79 12) 0) (lwR f) (f 82) (f 83) (f 87) (f (fv 79 4) 0) ((wv (wv (mx [89, 100, 101, 102, fv 79 45, fv 79 46] f f1) 89 i s) 89 jj t) 89) (f (fv 79 15) 0)) => ?_) (fun f1_7 (hh_8 : ¬ alE (aR f) (oR f) (f (fv 79 12) 0) (lwR f) (f 82) (f 83) (f 87) (f (fv 79 4) 0) ((wv (wv (mx [89, 100, 101, 102, fv 79 45, fv 79 46] f f1) 89 i s) 89 jj t) 89) (f (fv 79 15) 0)) => ?_))
          · have hyes : sol2 (EaR f) (f 88) (f (fv 79 13) 0) i jj s t := ⟨hi.1, hi.2.1, hi.2.2.1, hi.2.2.2.1, hi.2.2.2.2, by omega, by omega, by omega, by omega, by omega, by assumption, (EaR_up2 hnr hi.2.1 (fun k h0 h1 e e2 => (wv_k e2).trans ((wv_k e).trans (hrw k h0 h1))) ((wv_k (by omega)).trans wv_s) wv_s).mp hh_6⟩
            refine ⟨show 0 ≤ (i : Int) ∧ i < 60 from by omega, ?_⟩
            refine ⟨show 0 ≤ (i : Int) ∧ i < 60 from by omega, ?_⟩
            refine ⟨show 0 ≤ (jj : Int) ∧ jj < 60 from by omega, ?_⟩
            refine ⟨show 0 ≤ (jj : Int) ∧ jj < 60 from by omega, ?_⟩
            refine ⟨fun h => absurd (show (1 : Int) = 0 from h) (by decide), fun _ => ?_⟩
            refine ⟨show (1 : Int) = 0 ∨ 1 = 1 from by decide, ?_⟩
            have hk := k0 (wv (wv (wv (wv (mx [100, 101, 102] (wv (wv f1 89 i s) 89 jj t) f1_5) 89 i (f 88 i)) 89 jj (f 88 jj)) (fv 79 45) 0 s) (fv 79 46) 0 t) hyes (fun s2 t2 h2 => by
              show s < s2 ∨ (s = s2 ∧ t ≤ t2)
              by_cases e : s2 < s
              · exact absurd h2 (hz s2 t2 e)
              · by_cases e2 : s2 = s
                · by_cases e3 : t2 < t
                  · rw [e2] at h2; exact absurd h2 (hzt t2 e3)
                  · omega
                · omega) (by
              intro k h0 h1
              show (wv (wv (mx [100, 101, 102] (wv (wv f1 89 i s) 89 jj t) f1_5) 89 i (f 88 i)) 89 jj (f 88 jj)) 89 k = _
              rw [wv_i]
              by_cases e : k = jj
              · rw [if_pos e, e]
              · rw [if_neg e]
                show wv _ 89 i (f 88 i) 89 k = _
                rw [wv_i]
                by_cases e2 : k = i
                · rw [if_pos e2, e2]
                · rw [if_neg e2]
                  show wv (wv f1 89 i s) 89 jj t 89 k = _
                  rw [wv_k e, wv_k e2]; exact hrw k h0 h1)
            rw [show mx [89, 100, 101, 102, fv 79 45, fv 79 46] f (wv (wv (wv (wv (mx [100, 101, 102] (wv (wv f1 89 i s) 89 jj t) f1_5) 89 i (f 88 i)) 89 jj (f 88 jj)) (fv 79 45) 0 s) (fv 79 46) 0 t) = (wv (wv (wv (wv (mx [100, 101, 102] (wv (wv (mx [89, 100, 101, 102, fv 79 45, fv 79 46] f f1) 89 i s) 89 jj t) f1_5) 89 i (f 88 i)) 89 jj (f 88 jj)) (fv 79 45) 0 s) (fv 79 46) 0 t) from ((mx_wv rfl (mx_wv rfl (mx_wv rfl (mx_wv rfl (mx_mx rfl (mx_wv rfl (mx_wv rfl rfl)))))))).symm] at hk
            exact hk
          · have hno : ¬ sol2 (EaR f) (f 88) (f (fv 79 13) 0) i jj s t := fun h => hh_8 ((EaR_up2 hnr hi.2.1 (fun k h0 h1 e e2 => (wv_k e2).trans ((wv_k e).trans (hrw k h0 h1))) ((wv_k (by omega)).trans wv_s) wv_s).mpr h.2.2.2.2.2.2.2.2.2.2.2)
            refine ⟨show 0 ≤ (i : Int) ∧ i < 60 from by omega, ?_⟩
            refine ⟨show 0 ≤ (i : Int) ∧ i < 60 from by omega, ?_⟩
            refine ⟨show 0 ≤ (jj : Int) ∧ jj < 60 from by omega, ?_⟩
            refine ⟨show 0 ≤ (jj : Int) ∧ jj < 60 from by omega, ?_⟩
            refine ⟨fun _ => ?_, fun h => absurd (show (0 : Int) = 0 from by decide) h⟩
            refine ⟨show inr (t + 1) from by constructor <;> omega, ?_⟩
            refine hB ((29 - s) * 31 - (t + 1) : Int).toNat ?_ (Or.inr (⟨rfl, s, (t + 1), (wv (wv (wv (wv (mx [100, 101, 102] (wv (wv f1 89 i s) 89 jj t) f1_7) 89 i (f 88 i)) 89 jj (f 88 jj)) (fv 79 45) 0 s) (fv 79 46) 0 t), rfl, rfl, (mx_wv rfl (mx_wv rfl (mx_wv rfl (mx_wv rfl (mx_mx rfl (mx_wv rfl (mx_wv rfl rfl))))))), rfl, ?_, ?_, ?_, ?_, ?_⟩))
            · omega
            · omega
            · exact hz
            · intro t2 h0 h1
              by_cases e : t2 = t
              · rw [e] at h1; exact hno h1
              · exact hzt t2 (by omega) h1
            · intro k h0 h1
              show (wv (wv (mx [100, 101, 102] (wv (wv f1 89 i s) 89 jj t) f1_7) 89 i (f 88 i)) 89 jj (f 88 jj)) 89 k = _
              rw [wv_i]
              by_cases e : k = jj
              · rw [if_pos e, e]
              · rw [if_neg e]
                show wv _ 89 i (f 88 i) 89 k = _
                rw [wv_i]
                by_cases e2 : k = i
                · rw [if_pos e2, e2]
                · rw [if_neg e2]
                  show wv (wv f1 89 i s) 89 jj t 89 k = _
                  rw [wv_k e, wv_k e2]; exact hrw k h0 h1
            · omega
      · refine ⟨show inr (s + 1) from by constructor <;> omega, ?_⟩
        refine hB ((29 - (s + 1)) * 31 : Int).toNat ?_ (Or.inl ⟨rfl, (s + 1), f1, rfl, rfl, rfl, rfl, ?_, ?_, ?_, ?_⟩)
        · omega
        · omega
        · intro s2 t2 h0 h1
          by_cases e : s2 = s
          · rw [e] at h1; first | exact h1.2.2.2.2.2.2.2.1 (by assumption) | (by_cases e3 : t2 < t; exact hzt t2 e3 h1; exact absurd h1.2.2.2.2.2.2.2.2.2.1 (by omega))
          · exact hz s2 t2 (by omega) h1
        · exact hrw
        · omega
  · have hg1 := hg.1
    refine hF ((29 - 0) * 31 : Int).toNat ?_ (Or.inl ⟨rfl, 0, f, rfl, rfl, mx_rf, rfl, ?_, ?_, ?_, ?_⟩)
    · omega
    · omega
    · intro s2 t2 h0 h1; exact absurd h1.2.2.2.2.2.1 (by omega)
    · exact hrow
    · omega
end C18
