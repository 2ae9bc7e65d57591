section C15
variable {d : Nat} {f : iF} {g : iG} {Q : Option iv → iF → iG → Prop}
theorem rwB_of {F f : iF} (hn : F (fv 79 15) 0 = f (fv 79 13) 0) (hrow : ∀ i, 0 ≤ i → i < f (fv 79 13) 0 → F 89 i = f 88 i) (hg : pgB f) : rwB F := ⟨by rw [hn]; exact hg.1, fun k h0 h1 => by rw [hn] at h1; rw [hrow k h0 h1]; exact hg.2 k h0 h1⟩
set_option maxRecDepth 100000 in
set_option maxHeartbeats 4000000 in
theorem c_earnsByPage {a : Int} (hd : 6 ≤ d) (ha : 0 ≤ a ∧ a < 8) (hg : (pgB f)) (ho : (oB f)) (hl : (lB f)) (hday : 0 ≤ (f (fv 79 12) 0) ∧ (f (fv 79 12) 0) ≤ 9999) (k0 : ∀ f1 : iF, Q (some (iI (enI (aR f) (oR f) (f (fv 79 12) 0) (lwR f) (f 88) (f (fv 79 13) 0) a))) (mx [89, fv 79 15, 100, 101, 102] f f1) g) : wq d 57 [iR 79, iI a] f g Q := by
  obtain ⟨d, rfl⟩ : ∃ e, d = e + 1 := ⟨d - 1, by omega⟩
  refine i_meth0 rfl rfl (fun O J hO => ?_)
  refine hO (c_thinks (by omega) (show (pgB f) from hg) (fun f1_1 (hh_2 : f1_1 (fv 79 15) 0 = (f (fv 79 13) 0)) (hh_3 : ∀ i, 0 ≤ i → i < (f (fv 79 13) 0) → f1_1 89 i = (f 88 i)) => ?_))
  have hnr := hh_2
  have hrow := hh_3
  refine hO (c_finds (by omega) (show (rwB (mx [89, fv 79 15] f f1_1)) from rwB_of hnr hrow hg) (show (oB f) from ho) (show (lB f) from hl) (show 0 ≤ (f (fv 79 12) 0) ∧ (f (fv 79 12) 0) ≤ 9999 from hday) (fun f1_4 (hh_5 : ∀ a, 0 ≤ a → a < 8 → f1_4 102 a = enI (aR f) (oR f) (f (fv 79 12) 0) (lwR f) (f1_1 89) (f1_1 (fv 79 15) 0) a) => ?_))
  have hea := hh_5
  refine ⟨show 0 ≤ (a : Int) ∧ a < 8 from by omega, ?_⟩
  have he := hea a ha.1 ha.2
  rw [hnr, enI_cg hrow] at he
  rw [← he] at k0
  have hk := k0 (mx [100, 101, 102] (mx [89, fv 79 15] f f1_1) f1_4) 
  rw [show mx [89, fv 79 15, 100, 101, 102] f (mx [100, 101, 102] (mx [89, fv 79 15] f f1_1) f1_4) = (mx [100, 101, 102] (mx [89, fv 79 15] f f1_1) f1_4) from ((mx_mx rfl (mx_mx rfl mx_rf))).symm] at hk
  exact hk
set_option maxRecDepth 100000 in
set_option maxHeartbeats 4000000 in
theorem c_of {a w : Int} (hd : 7 ≤ d) (hc : 0 ≤ (f (fv 79 4) 0) ∧ (f (fv 79 4) 0) ≤ 8) (hto : ∀ a, 0 ≤ a → a < 8 → 0 ≤ (f 85 a) ∧ (f 85 a) ≤ 100000) (hg : (pgB f)) (ho : (oB f)) (hl : (lB f)) (hday : 0 ≤ (f (fv 79 12) 0) ∧ (f (fv 79 12) 0) ≤ 9999) (k0 : ((0 ≤ a ∧ a < (f (fv 79 4) 0)) ∧ w = 0) → Q (some (iI (f 80 (0 + a)))) (wv f (fv 79 0) 0 0) g) (k1 : ((0 ≤ a ∧ a < (f (fv 79 4) 0)) ∧ w = 1) → Q (some (iI (f 82 a))) (wv f (fv 79 0) 0 0) g) (k2 : ((0 ≤ a ∧ a < (f (fv 79 4) 0)) ∧ w = 2) → Q (some (iI (f 83 a))) (wv f (fv 79 0) 0 0) g) (k3 : ((0 ≤ a ∧ a < (f (fv 79 4) 0)) ∧ w = 3) → Q (some (iI (f 84 a))) (wv f (fv 79 0) 0 0) g) (k4 : ((0 ≤ a ∧ a < (f (fv 79 4) 0)) ∧ w = 4) → Q (some (iI (cI (fun s => decide ((f 86 s) - 1 = a)) 29))) (wv f (fv 79 0) 0 0) g) (k5 : ((0 ≤ a ∧ a < (f (fv 79 4) 0)) ∧ w = 5) → Q (some (iI ((f 85 a) - 1))) (wv f (fv 79 0) 0 0) g) (k6 : ∀ f1 : iF, ((0 ≤ a ∧ a < (f (fv 79 4) 0)) ∧ w = 6) → Q (some (iI (enI (aR f) (oR f) (f (fv 79 12) 0) (lwR f) (f 88) (f (fv 79 13) 0) a))) (mx [89, fv 79 15, 100, 101, 102, fv 79 0] f f1) g) (k7 : (¬ ((0 ≤ a ∧ a < (f (fv 79 4) 0)) ∧ 0 ≤ w ∧ w ≤ 6)) → Q (some (iI (-2))) (wv f (fv 79 0) 0 0) g) : wq d 58 [iR 79, iI a, iI w] f g Q := by
  obtain ⟨d, rfl⟩ : ∃ e, d = e + 1 := ⟨d - 1, by omega⟩
  refine i_meth0 rfl rfl (fun O J hO => ?_)
  refine hO (c_isAppr (by omega) (fun (hh_1 : 0 ≤ a) (hh_2 : a < (f (fv 79 4) 0)) => ?_) (fun (hh_3 : ¬ (0 ≤ a ∧ a < (f (fv 79 4) 0))) => ?_))
  · have hta := hto a (by omega) (by omega)
    refine ⟨fun h => absurd (show (1 : Int) = 0 from h) (by decide), fun _ => ?_⟩
    refine ⟨fun (hh_4 : w = 0) => ?_, fun (hh_4 : ¬ w = 0) => ?_⟩
    · refine Or.inl ⟨show inr (0 + a) from by constructor <;> omega, ?_⟩
      refine ⟨show 0 ≤ ((0 + a) : Int) ∧ (0 + a) < 40 from by omega, ?_⟩
      exact k0 (by omega)
    · refine ⟨fun (hh_5 : w = 1) => ?_, fun (hh_5 : ¬ w = 1) => ?_⟩
      · refine ⟨show 0 ≤ (a : Int) ∧ a < 8 from by omega, ?_⟩
        exact k1 (by omega)
      · refine ⟨fun (hh_6 : w = 2) => ?_, fun (hh_6 : ¬ w = 2) => ?_⟩
        · refine ⟨show 0 ≤ (a : Int) ∧ a < 8 from by omega, ?_⟩
          exact k2 (by omega)
        · refine ⟨fun (hh_7 : w = 3) => ?_, fun (hh_7 : ¬ w = 3) => ?_⟩
          · refine ⟨show 0 ≤ (a : Int) ∧ a < 8 from by omega, ?_⟩
            exact k3 (by omega)
          · refine ⟨fun (hh_8 : w = 4) => ?_, fun (hh_8 : ¬ w = 4) => ?_⟩
            · refine hO (c_signsOf (by omega) (show (oB f) from ho) ?_)
              exact k4 (by omega)
            · refine ⟨fun (hh_9 : w = 5) => ?_, fun (hh_9 : ¬ w = 5) => ?_⟩
              · refine ⟨show 0 ≤ (a : Int) ∧ a < 8 from by omega, ?_⟩
                refine Or.inl ⟨show inr ((f 85 a) - 1) from by constructor <;> omega, ?_⟩
                exact k5 (by omega)
              · refine ⟨fun (hh_10 : w = 6) => ?_, fun (hh_10 : ¬ w = 6) => ?_⟩
                · refine hO (c_earnsByPage (by omega) (show 0 ≤ a ∧ a < 8 from by omega) (show (pgB f) from hg) (show (oB f) from ho) (show (lB f) from hl) (show 0 ≤ (f (fv 79 12) 0) ∧ (f (fv 79 12) 0) ≤ 9999 from hday) (fun f1_11 => ?_))
                  have hk := k6 (mx [89, fv 79 15, 100, 101, 102] (wv f (fv 79 0) 0 0) f1_11) (by omega)
                  rw [show mx [89, fv 79 15, 100, 101, 102, fv 79 0] f (mx [89, fv 79 15, 100, 101, 102] (wv f (fv 79 0) 0 0) f1_11) = (mx [89, fv 79 15, 100, 101, 102] (wv f (fv 79 0) 0 0) f1_11) from ((mx_mx rfl (mx_wv rfl mx_rf))).symm] at hk
                  exact hk
                · exact k7 (by omega)
  · refine ⟨fun _ => ?_, fun h => absurd (show (0 : Int) = 0 from by decide) h⟩
    exact k7 (by omega)
set_option maxRecDepth 100000 in
set_option maxHeartbeats 4000000 in
theorem c_pays {i : Int} (hd : 5 ≤ d) (hg : (pgB f)) (ho : (oB f)) (hl : (lB f)) (hday : 0 ≤ (f (fv 79 12) 0) ∧ (f (fv 79 12) 0) ≤ 9999) (k0 : ∀ f1 : iF, (0 ≤ i ∧ i < (f (fv 79 13) 0) ∧ ¬ (f 88 i) = 29) → Q (some (iI (pyI (aR f) (oR f) (f (fv 79 12) 0) (lwR f) (f 88) (f (fv 79 13) 0) i))) (mx [89, fv 79 15, 100, 101, fv 79 0] f f1) g) (k1 : (¬ (0 ≤ i ∧ i < (f (fv 79 13) 0) ∧ ¬ (f 88 i) = 29)) → Q (some (iI (-1))) (wv f (fv 79 0) 0 0) g) : wq d 61 [iR 79, iI i] f g Q := by
  obtain ⟨d, rfl⟩ : ∃ e, d = e + 1 := ⟨d - 1, by omega⟩
  refine i_meth0 rfl rfl (fun O J hO => ?_)
  have hg1 := hg.1
  refine Or.inl ⟨show inr ((f (fv 79 13) 0) - 1) from by constructor <;> omega, ?_⟩
  refine hO (c_isIn (by omega) (fun (hh_1 : 0 ≤ i) (hh_2 : i ≤ ((f (fv 79 13) 0) - 1)) => ?_) (fun (hh_3 : ¬ (0 ≤ i ∧ i ≤ ((f (fv 79 13) 0) - 1))) => ?_))
  · refine ⟨fun h => absurd (show (1 : Int) = 0 from h) (by decide), fun _ => ?_⟩
    refine ⟨show 0 ≤ (i : Int) ∧ i < 60 from by omega, ?_⟩
    refine ⟨fun (hh_4 : f 88 i = 29) => ?_, fun (hh_4 : ¬ f 88 i = 29) => ?_⟩
    · exact k1 (by omega)
    · refine hO (c_thinks (by omega) (show (pgB f) from hg) (fun f1_5 (hh_6 : f1_5 (fv 79 15) 0 = (f (fv 79 13) 0)) (hh_7 : ∀ i, 0 ≤ i → i < (f (fv 79 13) 0) → f1_5 89 i = (f 88 i)) => ?_))
      have hnr := hh_6
      have hrow := hh_7
      refine hO (c_paysAt (by omega) (show 0 ≤ i from by omega) (show i < (f1_5 (fv 79 15) 0) from by omega) (show (f1_5 89 i) < 29 from by rw [hrow i (by omega) (by omega)]; have := hg.2 i (by omega) (by omega); omega) (show (rwB (mx [89, fv 79 15] f f1_5)) from rwB_of hnr hrow hg) (show (oB f) from ho) (show (lB f) from hl) (show 0 ≤ (f (fv 79 12) 0) ∧ (f (fv 79 12) 0) ≤ 9999 from hday) (fun f1_8 => ?_))
      have he := pyI_cg (ab := aR f) (ow := oR f) (day := f (fv 79 12) 0) (w := lwR f) (i := i) hrow (by omega) (by omega)
      rw [← he, ← hnr] at k0
      have hk := k0 (mx [100, 101] (mx [89, fv 79 15] (wv f (fv 79 0) 0 0) f1_5) f1_8) (by omega)
      rw [show mx [89, fv 79 15, 100, 101, fv 79 0] f (mx [100, 101] (mx [89, fv 79 15] (wv f (fv 79 0) 0 0) f1_5) f1_8) = (mx [100, 101] (mx [89, fv 79 15] (wv f (fv 79 0) 0 0) f1_5) f1_8) from ((mx_mx rfl (mx_mx rfl (mx_wv rfl mx_rf)))).symm] at hk
      exact hk
  · refine ⟨fun _ => ?_, fun h => absurd (show (0 : Int) = 0 from by decide) h⟩
    exact k1 (by omega)
theorem enI_r {ab : Int → Bool} {ow : Int → Int} {day : Int} {w : Lw} {row : Int → Int} {n a : Int} (hn : 0 ≤ n ∧ n ≤ 60) : 0 ≤ enI ab ow day w row n a ∧ enI ab ow day w row n a ≤ 5940 := by
  have := sI_le (h := enH ab ow day w row n a) (n := n) (c := 99) (by omega) hn.1 (fun k _ _ => enH_r)
  rw [enI_eq]
  omega
set_option maxRecDepth 100000 in
set_option maxHeartbeats 4000000 in
theorem c_others {a : Int} (hd : 6 ≤ d) (hc : 0 ≤ (f (fv 79 4) 0) ∧ (f (fv 79 4) 0) ≤ 8) (hr : (rwB f)) (ho : (oB f)) (hl : (lB f)) (hday : 0 ≤ (f (fv 79 12) 0) ∧ (f (fv 79 12) 0) ≤ 9999) (k0 : ∀ f1 : iF, Q (some (iI (sI (fun o => if o = a then 0 else enI (aR f) (oR f) (f (fv 79 12) 0) (lwR f) (f 89) (f (fv 79 15) 0) o) (f (fv 79 4) 0)))) (mx [100, 101, 102] f f1) g) : wq d 73 [iR 79, iI a] f g Q := by
  obtain ⟨d, rfl⟩ : ∃ e, d = e + 1 := ⟨d - 1, by omega⟩
  refine i_meth [(6, 4)] (fun n j lv st f' g' => (j = 6 ∧ ∃ (c : Int) (k : Int) (f1 : iF), lv = [some (iR 79), some (iI a), some (iI c), some (iI k)] ∧ st = [] ∧ f' = (mx [100, 101, 102] f f1) ∧ g = g' ∧ (0 ≤ k ∧ k ≤ f (fv 79 4) 0 ∧ 0 ≤ c ∧ c ≤ 5940 * k) ∧ (∀ a, 0 ≤ a → a < 8 → f1 102 a = enI (aR f) (oR f) (f (fv 79 12) 0) (lwR f) (f 89) (f (fv 79 15) 0) a) ∧ (c = sI (fun o => if o = a then 0 else enI (aR f) (oR f) (f (fv 79 12) 0) (lwR f) (f 89) (f (fv 79 15) 0) o) k) ∧ (n : Int) = f (fv 79 4) 0 - k)) 8 (by omega) rfl rfl (fun n j lv st f' g' hn hI O J hO hF hB => ?_) (fun hvs hin O J hO hF => ?_)
  · obtain ⟨rfl, c, k, f1, rfl, rfl, rfl, rfl, hk, hE, hs, hm⟩ := hI
    have hr1 := hr.1
    refine ⟨fun (hh_1 : k < f (fv 79 4) 0) => ?_, fun (hh_1 : ¬ k < f (fv 79 4) 0) => ?_⟩
    · have hEk := hE k (by omega) (by omega)
      have her := enI_r (ab := aR f) (ow := oR f) (day := f (fv 79 12) 0) (w := lwR f) (row := f 89) (n := (f (fv 79 15) 0)) (a := k) hr1
      refine ⟨fun (hh_2 : k = a) => ?_, fun (hh_2 : ¬ k = a) => ?_⟩
      · refine ⟨show inr (k + 1) from by constructor <;> omega, ?_⟩
        refine hB (f (fv 79 4) 0 - (k + 1) : Int).toNat ?_ ⟨rfl, c, (k + 1), f1, rfl, rfl, rfl, rfl, ?_, ?_, ?_, ?_⟩
        · omega
        · omega
        · exact hE
        · rw [sI_s (by omega)]
          first | (rw [if_pos (by omega)]; omega) | (rw [if_neg (by omega), hE k (by omega) (by omega)]; omega)
        · omega
      · refine ⟨show 0 ≤ (k : Int) ∧ k < 8 from by omega, ?_⟩
        refine Or.inl ⟨show inr (c + (f1 102 k)) from by constructor <;> omega, ?_⟩
        refine ⟨show inr (k + 1) from by constructor <;> omega, ?_⟩
        refine hB (f (fv 79 4) 0 - (k + 1) : Int).toNat ?_ ⟨rfl, (c + (f1 102 k)), (k + 1), f1, rfl, rfl, rfl, rfl, ?_, ?_, ?_, ?_⟩
        · omega
        · omega
        · exact hE
        · rw [sI_s (by omega)]
          first | (rw [if_pos (by omega)]; omega) | (rw [if_neg (by omega), hE k (by omega) (by omega)]; omega)
        · omega
    · rw [show k = f (fv 79 4) 0 by omega] at hs
      rw [← hs] at k0
      exact k0 f1
  · refine hO (c_finds (by omega) (show (rwB f) from hr) (show (oB f) from ho) (show (lB f) from hl) (show 0 ≤ (f (fv 79 12) 0) ∧ (f (fv 79 12) 0) ≤ 9999 from hday) (fun f1_3 (hh_4 : ∀ a, 0 ≤ a → a < 8 → f1_3 102 a = enI (aR f) (oR f) (f (fv 79 12) 0) (lwR f) (f 89) (f (fv 79 15) 0) a) => ?_))
    have hea := hh_4
    refine hF (f (fv 79 4) 0 - 0 : Int).toNat ?_ ⟨rfl, 0, 0, f1_3, rfl, rfl, rfl, rfl, ?_, ?_, ?_, ?_⟩
    · omega
    · omega
    · exact hea
    · rfl
    · omega
set_option maxRecDepth 100000 in
set_option maxHeartbeats 4000000 in
theorem c_gaps (hd : 3 ≤ d) (hr : (rwB f)) (ho : (oB f)) (k0 : Q (some (iI (cI (fun i => decide (¬ (f 89 i) = 29) && !(aR f) (f 89 i)) (f (fv 79 15) 0)))) f g) : wq d 74 [iR 79] f g Q := by
  obtain ⟨d, rfl⟩ : ∃ e, d = e + 1 := ⟨d - 1, by omega⟩
  refine i_meth [(4, 3)] (fun n j lv st f' g' => (j = 4 ∧ ∃ (c : Int) (i : Int), lv = [some (iR 79), some (iI c), some (iI i)] ∧ st = [] ∧ f = f' ∧ g = g' ∧ (0 ≤ i ∧ i ≤ (f (fv 79 15) 0) ∧ 0 ≤ c ∧ c ≤ i) ∧ (c = cI (fun i => decide (¬ f 89 i = 29) && !aR f (f 89 i)) i) ∧ (n : Int) = (f (fv 79 15) 0) - i)) 60 (by omega) rfl rfl (fun n j lv st f' g' hn hI O J hO hF hB => ?_) (fun hvs hin O J hO hF => ?_)
  · obtain ⟨rfl, c, i, rfl, rfl, rfl, rfl, hi, hc, hm⟩ := hI
    have hr1 := hr.1
    refine ⟨fun (hh_1 : i < f (fv 79 15) 0) => ?_, fun (hh_1 : ¬ i < f (fv 79 15) 0) => ?_⟩
    · have hri := hr.2 i (by omega) (by omega)
      refine ⟨show 0 ≤ (i : Int) ∧ i < 60 from by omega, ?_⟩
      refine ⟨fun (hh_2 : f 89 i = 29) => ?_, fun (hh_2 : ¬ f 89 i = 29) => ?_⟩
      · refine ⟨show inr (i + 1) from by constructor <;> omega, ?_⟩
        refine hB ((f (fv 79 15) 0) - (i + 1) : Int).toNat ?_ ⟨rfl, c, (i + 1), rfl, rfl, rfl, rfl, ?_, ?_, ?_⟩
        · omega
        · omega
        · first | (rw [cI_t (by omega) (by rw [decide_eq_true ‹¬ f 89 i = 29›, ‹aR f (f 89 i) = false›]; rfl)]; omega) | (rw [cI_f (by omega) (by rw [‹aR f (f 89 i) = true›]; simp)]; omega) | (rw [cI_f (by omega) (by rw [decide_eq_false (fun h => h ‹f 89 i = 29›)]; rfl)]; omega)
        · omega
      · refine ⟨show 0 ≤ (i : Int) ∧ i < 60 from by omega, ?_⟩
        refine hO (c_canP (by omega) (show 0 ≤ (f 89 i) from by omega) (show (f 89 i) < 29 from by omega) (show (oB f) from ho) (fun (hh_3 : (aR f) (f 89 i) = true) => ?_) (fun (hh_4 : (aR f) (f 89 i) = false) => ?_))
        · refine ⟨fun h => absurd (show (1 : Int) = 0 from h) (by decide), fun _ => ?_⟩
          refine ⟨show inr (i + 1) from by constructor <;> omega, ?_⟩
          refine hB ((f (fv 79 15) 0) - (i + 1) : Int).toNat ?_ ⟨rfl, c, (i + 1), rfl, rfl, rfl, rfl, ?_, ?_, ?_⟩
          · omega
          · omega
          · first | (rw [cI_t (by omega) (by rw [decide_eq_true ‹¬ f 89 i = 29›, ‹aR f (f 89 i) = false›]; rfl)]; omega) | (rw [cI_f (by omega) (by rw [‹aR f (f 89 i) = true›]; simp)]; omega) | (rw [cI_f (by omega) (by rw [decide_eq_false (fun h => h ‹f 89 i = 29›)]; rfl)]; omega)
          · omega
        · refine ⟨fun _ => ?_, fun h => absurd (show (0 : Int) = 0 from by decide) h⟩
          refine Or.inl ⟨show inr (c + 1) from by constructor <;> omega, ?_⟩
          refine ⟨show inr (i + 1) from by constructor <;> omega, ?_⟩
          refine hB ((f (fv 79 15) 0) - (i + 1) : Int).toNat ?_ ⟨rfl, (c + 1), (i + 1), rfl, rfl, rfl, rfl, ?_, ?_, ?_⟩
          · omega
          · omega
          · first | (rw [cI_t (by omega) (by rw [decide_eq_true ‹¬ f 89 i = 29›, ‹aR f (f 89 i) = false›]; rfl)]; omega) | (rw [cI_f (by omega) (by rw [‹aR f (f 89 i) = true›]; simp)]; omega) | (rw [cI_f (by omega) (by rw [decide_eq_false (fun h => h ‹f 89 i = 29›)]; rfl)]; omega)
          · omega
    · rw [show i = (f (fv 79 15) 0) by omega] at hc
      rw [← hc] at k0
      exact k0
  · have hr1 := hr.1
    refine hF ((f (fv 79 15) 0) - 0 : Int).toNat ?_ ⟨rfl, 0, 0, rfl, rfl, rfl, rfl, ?_, ?_, ?_⟩
    · omega
    · omega
    · rfl
    · omega
/-- who can print, if a were on strike -/
def aRs (f : iF) (a : Int) : Int → Bool := abl (f 87) (oR f) (up (f 83) a 1)
def hurM (ab ab2 : Int → Bool) (ow : Int → Int) (day : Int) (w : Lw) (row : Int → Int) (n crew a what : Int) : Int := if what = 0 then sI (fun o => if o = a then 0 else enI ab ow day w row n o) crew - sI (fun o => if o = a then 0 else enI ab2 ow day w row n o) crew else cI (fun i => decide (¬ row i = 29) && !ab2 (row i)) n - cI (fun i => decide (¬ row i = 29) && !ab (row i)) n
theorem aRs_eq {f F : iF} {a : Int} (h1 : F 87 = f 87) (h2 : F 86 = f 86) (h3 : F 83 = up (f 83) a 1) : aR F = aRs f a := by
  unfold aR aRs oR
  rw [h1, h2, h3]
theorem up_up {h : Int → Int} {k v : Int} : up (up h k v) k (h k) = h := by
  funext j
  unfold up
  by_cases e : j = k
  · rw [if_pos e, e]
  · rw [if_neg e, if_neg e]
theorem oth_cg {ab : Int → Bool} {ow : Int → Int} {day : Int} {w : Lw} {row row' : Int → Int} {n a c : Int} (h : ∀ k, 0 ≤ k → k < n → row k = row' k) : sI (fun o => if o = a then 0 else enI ab ow day w row n o) c = sI (fun o => if o = a then 0 else enI ab ow day w row' n o) c := sI_congr (fun k _ _ => by rw [enI_cg h])
theorem gap_cg {ab : Int → Bool} {row row' : Int → Int} {n : Int} (h : ∀ k, 0 ≤ k → k < n → row k = row' k) : cI (fun i => decide (¬ row i = 29) && !ab (row i)) n = cI (fun i => decide (¬ row' i = 29) && !ab (row' i)) n := cI_congr (fun k h0 h1 => by rw [h k h0 h1])
theorem gap_r {q : Int → Bool} {n : Int} (hn : 0 ≤ n ∧ n ≤ 60) : 0 ≤ cI q n ∧ cI q n ≤ 50000 := by
  have := cI_le (p := q) hn.1
  omega
theorem oth_r {ab : Int → Bool} {ow : Int → Int} {day : Int} {w : Lw} {row : Int → Int} {n a c : Int} (hn : 0 ≤ n ∧ n ≤ 60) (hc : 0 ≤ c ∧ c ≤ 8) : 0 ≤ sI (fun o => if o = a then 0 else enI ab ow day w row n o) c ∧ sI (fun o => if o = a then 0 else enI ab ow day w row n o) c ≤ 50000 := by
  have := sI_le (h := fun o => if o = a then 0 else enI ab ow day w row n o) (n := c) (c := 5940) (by omega) hc.1 (fun k _ _ => by
    show 0 ≤ (if k = a then 0 else enI ab ow day w row n k) ∧ (if k = a then 0 else enI ab ow day w row n k) ≤ 5940
    split
    · omega
    · exact enI_r hn)
  omega
set_option maxRecDepth 100000 in
set_option maxHeartbeats 4000000 in
theorem c_hurts {a w : Int} (hd : 7 ≤ d) (hc : 0 ≤ (f (fv 79 4) 0) ∧ (f (fv 79 4) 0) ≤ 8) (hg : (pgB f)) (ho : (oB f)) (hl : (lB f)) (hday : 0 ≤ (f (fv 79 12) 0) ∧ (f (fv 79 12) 0) ≤ 9999) (k0 : ∀ f1 : iF, (0 ≤ a ∧ a < (f (fv 79 4) 0) ∧ 0 ≤ w ∧ w ≤ 1) → (f1 83 = (f 83)) → Q (some (iI (hurM (aR f) ((aRs f) a) (oR f) (f (fv 79 12) 0) (lwR f) (f 88) (f (fv 79 13) 0) (f (fv 79 4) 0) a w))) (mx [83, 89, fv 79 15, 100, 101, 102, fv 79 0] f f1) g) (k1 : (¬ (0 ≤ a ∧ a < (f (fv 79 4) 0) ∧ 0 ≤ w ∧ w ≤ 1)) → Q (some (iI (-100000))) (wv f (fv 79 0) 0 0) g) : wq d 75 [iR 79, iI a, iI w] f g Q := by
  obtain ⟨d, rfl⟩ : ∃ e, d = e + 1 := ⟨d - 1, by omega⟩
  refine i_meth [(25, 3), (44, 5)] (fun n j lv st f' g' => (j = 25 ∧ ∃ (x1 : Int) (f1 : iF), lv = [some (iR 79), some (iI a), some (iI w)] ∧ st = [(iI x1)] ∧ f' = (mx [83, 89, fv 79 15, 100, 101, 102, fv 79 0] f f1) ∧ g = g' ∧ (0 ≤ a ∧ a < f (fv 79 4) 0 ∧ 0 ≤ w ∧ w ≤ 1) ∧ (f1 (fv 79 15) 0 = (f (fv 79 13) 0)) ∧ (∀ i, 0 ≤ i → i < (f (fv 79 13) 0) → f1 89 i = f 88 i) ∧ (f1 83 = f 83) ∧ (x1 = (if w = 0 then sI (fun o => if o = a then 0 else enI (aR f) (oR f) (f (fv 79 12) 0) (lwR f) (f 88) (f (fv 79 13) 0) o) (f (fv 79 4) 0) else cI (fun i => decide (¬ f 88 i = 29) && !aR f (f 88 i)) (f (fv 79 13) 0))) ∧ (0 ≤ x1 ∧ x1 ≤ 50000) ∧ (n : Int) = 3) ∨ (j = 44 ∧ ∃ (x1 : Int) (sv : Int) (x2 : Int) (f1 : iF), lv = [some (iR 79), some (iI a), some (iI w), some (iI x1), some (iI sv)] ∧ st = [(iI x2)] ∧ f' = (mx [83, 89, fv 79 15, 100, 101, 102, fv 79 0] f f1) ∧ g = g' ∧ (0 ≤ a ∧ a < f (fv 79 4) 0 ∧ 0 ≤ w ∧ w ≤ 1) ∧ (f1 (fv 79 15) 0 = (f (fv 79 13) 0)) ∧ (∀ i, 0 ≤ i → i < (f (fv 79 13) 0) → f1 89 i = f 88 i) ∧ (f1 83 = up (f 83) a 1) ∧ (sv = f 83 a) ∧ (x1 = (if w = 0 then sI (fun o => if o = a then 0 else enI (aR f) (oR f) (f (fv 79 12) 0) (lwR f) (f 88) (f (fv 79 13) 0) o) (f (fv 79 4) 0) else cI (fun i => decide (¬ f 88 i = 29) && !aR f (f 88 i)) (f (fv 79 13) 0))) ∧ (0 ≤ x1 ∧ x1 ≤ 50000) ∧ (x2 = (if w = 0 then sI (fun o => if o = a then 0 else enI (aRs f a) (oR f) (f (fv 79 12) 0) (lwR f) (f 88) (f (fv 79 13) 0) o) (f (fv 79 4) 0) else cI (fun i => decide (¬ f 88 i = 29) && !aRs f a (f 88 i)) (f (fv 79 13) 0))) ∧ (0 ≤ x2 ∧ x2 ≤ 50000) ∧ (n : Int) = 2)) 5 (by omega) rfl rfl (fun n j lv st f' g' hn hI O J hO hF hB => ?_) (fun hvs hin O J hO hF => ?_)
  · rcases hI with hI | hI
    · obtain ⟨rfl, x1, f1, rfl, rfl, rfl, rfl, ha, hnr, hrow, h83, hx1, hb1, hm⟩ := hI
      have hg1 := hg.1
      refine ⟨show 0 ≤ (a : Int) ∧ a < 8 from by omega, ?_⟩
      refine ⟨show 0 ≤ (a : Int) ∧ a < 8 from by omega, ?_⟩
      have haR : (aR (wv (mx [83, 89, fv 79 15, 100, 101, 102, fv 79 0] f f1) 83 a 1)) = aRs f a := aRs_eq rfl rfl (by show wv f1 83 a 1 83 = _; rw [wv_up, h83])
      refine ⟨fun (hh_1 : w = 0) => ?_, fun (hh_1 : ¬ w = 0) => ?_⟩
      · refine hO (c_others (by omega) (show 0 ≤ (f (fv 79 4) 0) ∧ (f (fv 79 4) 0) ≤ 8 from hc) (show (rwB (mx [83, 89, fv 79 15, 100, 101, 102, fv 79 0] f f1)) from rwB_of hnr hrow hg) (show (oB f) from ho) (show (lB f) from hl) (show 0 ≤ (f (fv 79 12) 0) ∧ (f (fv 79 12) 0) ≤ 9999 from hday) (fun f1_2 => ?_))
        refine hF (2 : Int).toNat ?_ (Or.inr (⟨rfl, x1, f1 83 a, sI (fun o => if o = a then 0 else enI (aR (wv (mx [83, 89, fv 79 15, 100, 101, 102, fv 79 0] f f1) 83 a 1)) (oR f) (f (fv 79 12) 0) (lwR f) (f1 89) (f1 (fv 79 15) 0) o) (f (fv 79 4) 0), (mx [100, 101, 102] (wv f1 83 a 1) f1_2), rfl, rfl, (mx_mx rfl (mx_wv rfl rfl)), rfl, ?_, ?_, ?_, ?_, ?_, ?_, ?_, ?_, ?_, ?_⟩))
        · omega
        · omega
        · exact hnr
        · exact hrow
        · show wv f1 83 a 1 83 = _; rw [wv_up, h83]
        · exact congrFun h83 a
        · exact hx1
        · omega
        · first | (rw [if_pos ‹w = 0›, haR, ← oth_cg hrow, ← hnr]) | (rw [if_neg ‹¬ w = 0›, haR, ← gap_cg hrow, ← hnr])
        · first | (rw [hnr]; exact oth_r hg1 hc) | (rw [hnr]; exact gap_r hg1)
        · omega
      · refine hO (c_gaps (by omega) (show (rwB (mx [83, 89, fv 79 15, 100, 101, 102, fv 79 0] f f1)) from rwB_of hnr hrow hg) (show (oB f) from ho) ?_)
        refine hF (2 : Int).toNat ?_ (Or.inr (⟨rfl, x1, f1 83 a, cI (fun i => decide (¬ (f1 89 i) = 29) && !(aR (wv (mx [83, 89, fv 79 15, 100, 101, 102, fv 79 0] f f1) 83 a 1)) (f1 89 i)) (f1 (fv 79 15) 0), (wv f1 83 a 1), rfl, rfl, (mx_wv rfl rfl), rfl, ?_, ?_, ?_, ?_, ?_, ?_, ?_, ?_, ?_, ?_⟩))
        · omega
        · omega
        · exact hnr
        · exact hrow
        · show wv f1 83 a 1 83 = _; rw [wv_up, h83]
        · exact congrFun h83 a
        · exact hx1
        · omega
        · first | (rw [if_pos ‹w = 0›, haR, ← oth_cg hrow, ← hnr]) | (rw [if_neg ‹¬ w = 0›, haR, ← gap_cg hrow, ← hnr])
        · first | (rw [hnr]; exact oth_r hg1 hc) | (rw [hnr]; exact gap_r hg1)
        · omega
    · obtain ⟨rfl, x1, sv, x2, f1, rfl, rfl, rfl, rfl, ha, hnr, hrow, h83, hsv, hx1, hb1, hx2, hb2, hm⟩ := hI
      have hg1 := hg.1
      refine ⟨show 0 ≤ (a : Int) ∧ a < 8 from by omega, ?_⟩
      refine ⟨fun (hh_3 : w = 0) => ?_, fun (hh_3 : ¬ w = 0) => ?_⟩
      · refine Or.inl ⟨show inr (x1 - x2) from by constructor <;> omega, ?_⟩
        have he : hurM (aR f) (aRs f a) (oR f) (f (fv 79 12) 0) (lwR f) (f 88) (f (fv 79 13) 0) (f (fv 79 4) 0) a w = (x1 - x2) := by
          unfold hurM
          first | (rw [if_pos ‹w = 0›] at hx1 hx2; rw [if_pos ‹w = 0›, ← hx1, ← hx2]) | (rw [if_neg ‹¬ w = 0›] at hx1 hx2; rw [if_neg ‹¬ w = 0›, ← hx1, ← hx2])
        rw [he] at k0
        have hk := k0 (wv f1 83 a sv) ha (by show wv f1 83 a sv 83 = f 83; rw [wv_up, h83, hsv, up_up])
        rw [show mx [83, 89, fv 79 15, 100, 101, 102, fv 79 0] f (wv f1 83 a sv) = (wv (mx [83, 89, fv 79 15, 100, 101, 102, fv 79 0] f f1) 83 a sv) from ((mx_wv rfl rfl)).symm] at hk
        exact hk
      · refine Or.inl ⟨show inr (x2 - x1) from by constructor <;> omega, ?_⟩
        have he : hurM (aR f) (aRs f a) (oR f) (f (fv 79 12) 0) (lwR f) (f 88) (f (fv 79 13) 0) (f (fv 79 4) 0) a w = (x2 - x1) := by
          unfold hurM
          first | (rw [if_pos ‹w = 0›] at hx1 hx2; rw [if_pos ‹w = 0›, ← hx1, ← hx2]) | (rw [if_neg ‹¬ w = 0›] at hx1 hx2; rw [if_neg ‹¬ w = 0›, ← hx1, ← hx2])
        rw [he] at k0
        have hk := k0 (wv f1 83 a sv) ha (by show wv f1 83 a sv 83 = f 83; rw [wv_up, h83, hsv, up_up])
        rw [show mx [83, 89, fv 79 15, 100, 101, 102, fv 79 0] f (wv f1 83 a sv) = (wv (mx [83, 89, fv 79 15, 100, 101, 102, fv 79 0] f f1) 83 a sv) from ((mx_wv rfl rfl)).symm] at hk
        exact hk
  · have hg1 := hg.1
    refine hO (c_isAppr (by omega) (fun (hh_4 : 0 ≤ a) (hh_5 : a < (f (fv 79 4) 0)) => ?_) (fun (hh_6 : ¬ (0 ≤ a ∧ a < (f (fv 79 4) 0))) => ?_))
    · refine ⟨fun h => absurd (show (1 : Int) = 0 from h) (by decide), fun _ => ?_⟩
      refine hO (c_isIn (by omega) (fun (hh_7 : 0 ≤ w) (hh_8 : w ≤ 1) => ?_) (fun (hh_9 : ¬ (0 ≤ w ∧ w ≤ 1)) => ?_))
      · refine ⟨fun h => absurd (show (1 : Int) = 0 from h) (by decide), fun _ => ?_⟩
        refine hO (c_thinks (by omega) (show (pgB f) from hg) (fun f1_10 (hh_11 : f1_10 (fv 79 15) 0 = (f (fv 79 13) 0)) (hh_12 : ∀ i, 0 ≤ i → i < (f (fv 79 13) 0) → f1_10 89 i = (f 88 i)) => ?_))
        have hnr := hh_11
        have hrow := hh_12
        refine ⟨fun (hh_13 : w = 0) => ?_, fun (hh_13 : ¬ w = 0) => ?_⟩
        · refine hO (c_others (by omega) (show 0 ≤ (f (fv 79 4) 0) ∧ (f (fv 79 4) 0) ≤ 8 from hc) (show (rwB (mx [89, fv 79 15] f f1_10)) from rwB_of hnr hrow hg) (show (oB f) from ho) (show (lB f) from hl) (show 0 ≤ (f (fv 79 12) 0) ∧ (f (fv 79 12) 0) ≤ 9999 from hday) (fun f1_14 => ?_))
          refine hF (3 : Int).toNat ?_ (Or.inl ⟨rfl, sI (fun o => if o = a then 0 else enI (aR f) (oR f) (f (fv 79 12) 0) (lwR f) (f1_10 89) (f1_10 (fv 79 15) 0) o) (f (fv 79 4) 0), (mx [100, 101, 102] (mx [89, fv 79 15] (wv f (fv 79 0) 0 0) f1_10) f1_14), rfl, rfl, (mx_mx rfl (mx_mx rfl (mx_wv rfl mx_rf))), rfl, ?_, ?_, ?_, ?_, ?_, ?_, ?_⟩)
          · omega
          · omega
          · exact hnr
          · exact hrow
          · rfl
          · first | (rw [if_pos ‹w = 0›, ← oth_cg hrow, ← hnr]) | (rw [if_neg ‹¬ w = 0›, ← gap_cg hrow, ← hnr])
          · first | (rw [hnr]; exact oth_r hg1 hc) | (rw [hnr]; exact gap_r hg1)
          · omega
        · refine hO (c_gaps (by omega) (show (rwB (mx [89, fv 79 15] f f1_10)) from rwB_of hnr hrow hg) (show (oB f) from ho) ?_)
          refine hF (3 : Int).toNat ?_ (Or.inl ⟨rfl, cI (fun i => decide (¬ (f1_10 89 i) = 29) && !(aR f) (f1_10 89 i)) (f1_10 (fv 79 15) 0), (mx [89, fv 79 15] (wv f (fv 79 0) 0 0) f1_10), rfl, rfl, (mx_mx rfl (mx_wv rfl mx_rf)), rfl, ?_, ?_, ?_, ?_, ?_, ?_, ?_⟩)
          · omega
          · omega
          · exact hnr
          · exact hrow
          · rfl
          · first | (rw [if_pos ‹w = 0›, ← oth_cg hrow, ← hnr]) | (rw [if_neg ‹¬ w = 0›, ← gap_cg hrow, ← hnr])
          · first | (rw [hnr]; exact oth_r hg1 hc) | (rw [hnr]; exact gap_r hg1)
          · omega
      · refine ⟨fun _ => ?_, fun h => absurd (show (0 : Int) = 0 from by decide) h⟩
        exact k1 (by omega)
    · refine ⟨fun _ => ?_, fun h => absurd (show (0 : Int) = 0 from by decide) h⟩
      exact k1 (by omega)
theorem cI_pos {q : Int → Bool} {n : Int} (h : 0 ≤ n) {k : Int} (h0 : 0 ≤ k) (h1 : k < n) (hq : q k = true) : 1 ≤ cI q n := by
  obtain ⟨m, hm⟩ : ∃ m : Nat, n = k + 1 + m := ⟨(n - (k + 1)).toNat, by omega⟩
  subst hm
  clear h1 h
  induction m with
  | zero =>
    rw [show k + 1 + ((0 : Nat) : Int) = k + 1 by omega, cI_t h0 hq]
    have := cI_le (p := q) h0
    omega
  | succ m ih =>
    rw [show k + 1 + ((m + 1 : Nat) : Int) = k + 1 + m + 1 by omega, cI_s (by omega)]
    split <;> omega
set_option maxRecDepth 100000 in
set_option maxHeartbeats 4000000 in
theorem c_can (hd : 3 ≤ d) (hwl : 0 ≤ (f (fv 79 17) 0) ∧ (f (fv 79 17) 0) ≤ 20) (hww : ∀ w, 0 ≤ w → w < (f (fv 79 17) 0) → 1 ≤ (f 90 w) ∧ (f 90 w) ≤ 12 ∧ ∀ j, 0 ≤ j → j < (f 90 w) → 0 ≤ (f 91 (12 * w + j)) ∧ (f 91 (12 * w + j)) ≤ 25) (ho : (oB f)) (k0 : Q (some (iI (stI (fun w => decide (cI (fun j => !(aR f) (f 91 (12 * w + j))) (f 90 w) = 0)) (f (fv 79 17) 0)))) (wv f (fv 79 0) 0 0) g) : wq d 72 [iR 79] f g Q := by
  obtain ⟨d, rfl⟩ : ∃ e, d = e + 1 := ⟨d - 1, by omega⟩
  refine i_meth [(7, 3), (15, 5)] (fun n j lv st f' g' => (j = 7 ∧ ∃ (st0 : Int) (w : Int) (f1 : iF), lv = [some (iR 79), some (iI st0), some (iI w)] ∧ st = [] ∧ f' = (mx [fv 79 0] f f1) ∧ g = g' ∧ (0 ≤ w ∧ w ≤ f (fv 79 17) 0) ∧ (st0 = stI (fun w => decide (cI (fun j => !aR f (f 91 (12 * w + j))) (f 90 w) = 0)) w) ∧ (mx [fv 79 0] f f1 = wv f (fv 79 0) 0 0) ∧ (n : Int) = 20 * (f (fv 79 17) 0 - w)) ∨ (j = 15 ∧ ∃ (st0 : Int) (w : Int) (ok : Int) (i : Int) (f1 : iF), lv = [some (iR 79), some (iI st0), some (iI w), some (iI ok), some (iI i)] ∧ st = [] ∧ f' = (mx [fv 79 0] f f1) ∧ g = g' ∧ (0 ≤ w ∧ w < f (fv 79 17) 0) ∧ (st0 = stI (fun w => decide (cI (fun j => !aR f (f 91 (12 * w + j))) (f 90 w) = 0)) w) ∧ (mx [fv 79 0] f f1 = wv f (fv 79 0) 0 0) ∧ (0 ≤ i ∧ i ≤ f 90 w) ∧ ((ok = 1 ∧ cI (fun j => !aR f (f 91 (12 * w + j))) i = 0) ∨ (ok = 0 ∧ 1 ≤ cI (fun j => !aR f (f 91 (12 * w + j))) i)) ∧ (n : Int) = 20 * (f (fv 79 17) 0 - w) - i)) 400 (by omega) rfl rfl (fun n j lv st f' g' hn hI O J hO hF hB => ?_) (fun hvs hin O J hO hF => ?_)
  · rcases hI with hI | hI
    · obtain ⟨rfl, st0, w, f1, rfl, rfl, rfl, rfl, hw, hs, hst, hm⟩ := hI
      refine ⟨fun (hh_1 : w < f (fv 79 17) 0) => ?_, fun (hh_1 : ¬ w < f (fv 79 17) 0) => ?_⟩
      · have hwa := hww w (by omega) (by omega)
        refine hF (20 * (f (fv 79 17) 0 - w) - 0 : Int).toNat ?_ (Or.inr (⟨rfl, st0, w, 1, 0, f1, rfl, rfl, rfl, rfl, ?_, ?_, ?_, ?_, ?_, ?_⟩))
        · omega
        · omega
        · exact hs
        · exact hst
        · omega
        · exact Or.inl ⟨rfl, rfl⟩
        · omega
      · rw [show w = f (fv 79 17) 0 by omega] at hs
        rw [← hs, ← hst] at k0
        exact k0
    · obtain ⟨rfl, st0, w, ok, i, f1, rfl, rfl, rfl, rfl, hw, hs, hst, hi, hok, hm⟩ := hI
      have hwa := hww w (by omega) (by omega)
      refine ⟨show 0 ≤ (w : Int) ∧ w < 20 from by omega, ?_⟩
      refine ⟨fun (hh_2 : i < f 90 w) => ?_, fun (hh_2 : ¬ i < f 90 w) => ?_⟩
      · refine ⟨fun (hh_3 : ok = 0) => ?_, fun (hh_3 : ¬ ok = 0) => ?_⟩
        · refine ⟨show inr (i + 1) from by constructor <;> omega, ?_⟩
          refine hB (20 * (f (fv 79 17) 0 - w) - (i + 1) : Int).toNat ?_ (Or.inr (⟨rfl, st0, w, 0, (i + 1), f1, rfl, rfl, rfl, rfl, ?_, ?_, ?_, ?_, ?_, ?_⟩))
          · omega
          · omega
          · exact hs
          · exact hst
          · omega
          · first | (rw [cI_f (by omega) (by rw [‹aR f _ = true›]; rfl)]; omega) | (rw [cI_t (by omega) (by rw [‹aR f _ = false›]; rfl)]; omega) | (right; refine ⟨rfl, ?_⟩; rw [cI_s (by omega)]; split <;> omega)
          · omega
        · refine Or.inl ⟨show inr (12 * w) from by constructor <;> omega, ?_⟩
          refine Or.inl ⟨show inr ((12 * w) + i) from by constructor <;> omega, ?_⟩
          refine ⟨show 0 ≤ (((12 * w) + i) : Int) ∧ ((12 * w) + i) < 240 from by omega, ?_⟩
          refine hO (c_canP (by omega) (show 0 ≤ (f 91 ((12 * w) + i)) from by have := hwa.2.2 i (by omega) (by omega); omega) (show (f 91 ((12 * w) + i)) < 29 from by have := hwa.2.2 i (by omega) (by omega); omega) (show (oB f) from ho) (fun (hh_4 : (aR f) (f 91 ((12 * w) + i)) = true) => ?_) (fun (hh_5 : (aR f) (f 91 ((12 * w) + i)) = false) => ?_))
          · refine ⟨fun h => absurd (show (1 : Int) = 0 from h) (by decide), fun _ => ?_⟩
            refine ⟨show inr (i + 1) from by constructor <;> omega, ?_⟩
            refine hB (20 * (f (fv 79 17) 0 - w) - (i + 1) : Int).toNat ?_ (Or.inr (⟨rfl, st0, w, 1, (i + 1), f1, rfl, rfl, rfl, rfl, ?_, ?_, ?_, ?_, ?_, ?_⟩))
            · omega
            · omega
            · exact hs
            · exact hst
            · omega
            · first | (rw [cI_f (by omega) (by rw [‹aR f _ = true›]; rfl)]; omega) | (rw [cI_t (by omega) (by rw [‹aR f _ = false›]; rfl)]; omega) | (right; refine ⟨rfl, ?_⟩; rw [cI_s (by omega)]; split <;> omega)
            · omega
          · refine ⟨fun _ => ?_, fun h => absurd (show (0 : Int) = 0 from by decide) h⟩
            refine ⟨show inr (i + 1) from by constructor <;> omega, ?_⟩
            refine hB (20 * (f (fv 79 17) 0 - w) - (i + 1) : Int).toNat ?_ (Or.inr (⟨rfl, st0, w, 0, (i + 1), f1, rfl, rfl, rfl, rfl, ?_, ?_, ?_, ?_, ?_, ?_⟩))
            · omega
            · omega
            · exact hs
            · exact hst
            · omega
            · first | (rw [cI_f (by omega) (by rw [‹aR f _ = true›]; rfl)]; omega) | (rw [cI_t (by omega) (by rw [‹aR f _ = false›]; rfl)]; omega) | (right; refine ⟨rfl, ?_⟩; rw [cI_s (by omega)]; split <;> omega)
            · omega
      · have hi2 : i = f 90 w := by omega
        rw [hi2] at hok
        refine ⟨fun (hh_6 : ok = 0) => ?_, fun (hh_6 : ¬ ok = 0) => ?_⟩
        · refine ⟨show inr (w + 1) from by constructor <;> omega, ?_⟩
          refine hB (20 * (f (fv 79 17) 0 - (w + 1)) : Int).toNat ?_ (Or.inl ⟨rfl, st0, (w + 1), f1, rfl, rfl, rfl, rfl, ?_, ?_, ?_, ?_⟩)
          · omega
          · omega
          · rw [stI_f (by omega) (decide_eq_false (by omega)), ← hs]
          · exact hst
          · omega
        · refine ⟨show inr (w + 1) from by constructor <;> omega, ?_⟩
          refine hB (20 * (f (fv 79 17) 0 - (w + 1)) : Int).toNat ?_ (Or.inl ⟨rfl, (b_or st0 (b_shl 1 w)), (w + 1), f1, rfl, rfl, rfl, rfl, ?_, ?_, ?_, ?_⟩)
          · omega
          · omega
          · rw [stI_t (by omega) (decide_eq_true (by omega)), ← hs]
          · exact hst
          · omega
  · refine hF (20 * (f (fv 79 17) 0 - 0) : Int).toNat ?_ (Or.inl ⟨rfl, 0, 0, (wv f (fv 79 0) 0 0), rfl, rfl, (mx_wv rfl mx_rf), rfl, ?_, ?_, ?_, ?_⟩)
    · omega
    · omega
    · rfl
    · exact (mx_wv rfl mx_rf).symm
    · omega
set_option maxRecDepth 100000 in
set_option maxHeartbeats 4000000 in
theorem c_liars (hd : 3 ≤ d) (hc : 0 ≤ (f (fv 79 4) 0) ∧ (f (fv 79 4) 0) ≤ 8) (hto : ∀ a, 0 ≤ a → a < 8 → 0 ≤ (f 85 a) ∧ (f 85 a) ≤ 100000) (ho : (oB f)) (k0 : Q (some (iI (stI (fun a => decide (0 < (f 85 a) ∧ ¬ (f 85 a) - 1 = wsI (fun s => (f 80 (8 + s))) (fun s => decide ((f 86 s) - 1 = a)) 29)) (f (fv 79 4) 0)))) (wv f (fv 79 0) 0 0) g) : wq d 79 [iR 79] f g Q := by
  obtain ⟨d, rfl⟩ : ∃ e, d = e + 1 := ⟨d - 1, by omega⟩
  refine i_meth [(7, 3), (15, 5)] (fun n j lv st f' g' => (j = 7 ∧ ∃ (st0 : Int) (a : Int) (f1 : iF), lv = [some (iR 79), some (iI st0), some (iI a)] ∧ st = [] ∧ f' = (mx [fv 79 0] f f1) ∧ g = g' ∧ (0 ≤ a ∧ a ≤ f (fv 79 4) 0) ∧ (st0 = stI (fun a => decide (0 < f 85 a ∧ ¬ f 85 a - 1 = wsI (fun s => f 80 (8 + s)) (fun s => decide (f 86 s - 1 = a)) 29)) a) ∧ (mx [fv 79 0] f f1 = wv f (fv 79 0) 0 0) ∧ (n : Int) = 40 * (f (fv 79 4) 0 - a)) ∨ (j = 15 ∧ ∃ (st0 : Int) (a : Int) (nn : Int) (s : Int) (f1 : iF), lv = [some (iR 79), some (iI st0), some (iI a), some (iI nn), some (iI s)] ∧ st = [] ∧ f' = (mx [fv 79 0] f f1) ∧ g = g' ∧ (0 ≤ a ∧ a < f (fv 79 4) 0) ∧ (st0 = stI (fun a => decide (0 < f 85 a ∧ ¬ f 85 a - 1 = wsI (fun s => f 80 (8 + s)) (fun s => decide (f 86 s - 1 = a)) 29)) a) ∧ (mx [fv 79 0] f f1 = wv f (fv 79 0) 0 0) ∧ (0 ≤ s ∧ s ≤ 29) ∧ (nn = wsI (fun s => f 80 (8 + s)) (fun s => decide (f 86 s - 1 = a)) s) ∧ (n : Int) = 40 * (f (fv 79 4) 0 - a) - s)) 400 (by omega) rfl rfl (fun n j lv st f' g' hn hI O J hO hF hB => ?_) (fun hvs hin O J hO hF => ?_)
  · rcases hI with hI | hI
    · obtain ⟨rfl, st0, a, f1, rfl, rfl, rfl, rfl, ha, hs, hst, hm⟩ := hI
      refine ⟨fun (hh_1 : a < f (fv 79 4) 0) => ?_, fun (hh_1 : ¬ a < f (fv 79 4) 0) => ?_⟩
      · refine hF (40 * (f (fv 79 4) 0 - a) - 0 : Int).toNat ?_ (Or.inr (⟨rfl, st0, a, 0, 0, f1, rfl, rfl, rfl, rfl, ?_, ?_, ?_, ?_, ?_, ?_⟩))
        · omega
        · omega
        · exact hs
        · exact hst
        · omega
        · rfl
        · omega
      · rw [show a = f (fv 79 4) 0 by omega] at hs
        rw [← hs, ← hst] at k0
        exact k0
    · obtain ⟨rfl, st0, a, nn, s, f1, rfl, rfl, rfl, rfl, ha, hs, hst, hss, hn, hm⟩ := hI
      have hta := hto a (by omega) (by omega)
      refine ⟨fun (hh_2 : s < 29) => ?_, fun (hh_2 : ¬ s < 29) => ?_⟩
      · refine hO (c_ownerOf (by omega) (show 0 ≤ s from by omega) (show s < 29 from by omega) (show (oB f) from ho) ?_)
        refine ⟨fun (hh_3 : (f 86 s) - 1 = a) => ?_, fun (hh_3 : ¬ (f 86 s) - 1 = a) => ?_⟩
        · refine Or.inl ⟨show inr (8 + s) from by constructor <;> omega, ?_⟩
          refine ⟨show 0 ≤ ((8 + s) : Int) ∧ (8 + s) < 40 from by omega, ?_⟩
          refine Or.inr ?_
          refine ⟨show inr (s + 1) from by constructor <;> omega, ?_⟩
          refine hB (40 * (f (fv 79 4) 0 - a) - (s + 1) : Int).toNat ?_ (Or.inr (⟨rfl, st0, a, (w32 (nn + (f 80 (8 + s)))), (s + 1), f1, rfl, rfl, rfl, rfl, ?_, ?_, ?_, ?_, ?_, ?_⟩))
          · omega
          · omega
          · exact hs
          · exact hst
          · omega
          · first | (rw [wsI_t (by omega) (decide_eq_true ‹_ = a›), ← hn]) | (rw [wsI_f (by omega) (decide_eq_false ‹¬ _ = a›), ← hn])
          · omega
        · refine ⟨show inr (s + 1) from by constructor <;> omega, ?_⟩
          refine hB (40 * (f (fv 79 4) 0 - a) - (s + 1) : Int).toNat ?_ (Or.inr (⟨rfl, st0, a, nn, (s + 1), f1, rfl, rfl, rfl, rfl, ?_, ?_, ?_, ?_, ?_, ?_⟩))
          · omega
          · omega
          · exact hs
          · exact hst
          · omega
          · first | (rw [wsI_t (by omega) (decide_eq_true ‹_ = a›), ← hn]) | (rw [wsI_f (by omega) (decide_eq_false ‹¬ _ = a›), ← hn])
          · omega
      · have hs29 : s = 29 := by omega
        have hn2 := hn
        rw [hs29] at hn2
        refine ⟨show 0 ≤ (a : Int) ∧ a < 8 from by omega, ?_⟩
        refine ⟨fun (hh_4 : 0 < f 85 a) => ?_, fun (hh_4 : ¬ 0 < f 85 a) => ?_⟩
        · refine ⟨show 0 ≤ (a : Int) ∧ a < 8 from by omega, ?_⟩
          refine Or.inl ⟨show inr ((f 85 a) - 1) from by constructor <;> omega, ?_⟩
          refine ⟨fun (hh_5 : ((f 85 a) - 1) = nn) => ?_, fun (hh_5 : ¬ ((f 85 a) - 1) = nn) => ?_⟩
          · refine ⟨show inr (a + 1) from by constructor <;> omega, ?_⟩
            refine hB (40 * (f (fv 79 4) 0 - (a + 1)) : Int).toNat ?_ (Or.inl ⟨rfl, st0, (a + 1), f1, rfl, rfl, rfl, rfl, ?_, ?_, ?_, ?_⟩)
            · omega
            · omega
            · rw [stI_f (by omega) (decide_eq_false (by rw [← hn2]; omega)), ← hs]
            · exact hst
            · omega
          · refine ⟨show inr (a + 1) from by constructor <;> omega, ?_⟩
            refine hB (40 * (f (fv 79 4) 0 - (a + 1)) : Int).toNat ?_ (Or.inl ⟨rfl, (b_or st0 (b_shl 1 a)), (a + 1), f1, rfl, rfl, rfl, rfl, ?_, ?_, ?_, ?_⟩)
            · omega
            · omega
            · rw [stI_t (by omega) (decide_eq_true (by rw [← hn2]; omega)), ← hs]
            · exact hst
            · omega
        · refine ⟨show inr (a + 1) from by constructor <;> omega, ?_⟩
          refine hB (40 * (f (fv 79 4) 0 - (a + 1)) : Int).toNat ?_ (Or.inl ⟨rfl, st0, (a + 1), f1, rfl, rfl, rfl, rfl, ?_, ?_, ?_, ?_⟩)
          · omega
          · omega
          · rw [stI_f (by omega) (decide_eq_false (by rw [← hn2]; omega)), ← hs]
          · exact hst
          · omega
  · refine hF (40 * (f (fv 79 4) 0 - 0) : Int).toNat ?_ (Or.inl ⟨rfl, 0, 0, (wv f (fv 79 0) 0 0), rfl, rfl, (mx_wv rfl mx_rf), rfl, ?_, ?_, ?_, ?_⟩)
    · omega
    · omega
    · rfl
    · exact (mx_wv rfl mx_rf).symm
    · omega
end C15
