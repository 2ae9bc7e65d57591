section C5
variable {d : Nat} {f : iF} {g : iG} {Q : Option iv → iF → iG → Prop}
/-! ===== the reference: pays and earnings ===== -/
theorem ev_cg {fa fb : Int → Int} (h : ∀ k, 0 ≤ k → k ≤ 8 → fa k = fb k) : ∀ (l s : List Int), ev fa l s = ev fb l s := by
  intro l
  induction l with
  | nil => intro s; rfl
  | cons c l ih =>
    intro s
    have e : stp fa c s = stp fb c s := by
      by_cases h0 : 0 ≤ c
      · rw [stp_num h0, stp_num h0]
      · by_cases h9 : -9 ≤ c
        · rw [stp_ask (by omega) h9, stp_ask (by omega) h9, h _ (by omega) (by omega)]
        · unfold stp
          rw [if_neg h0, if_neg h9, if_neg h0, if_neg h9]
    show ev fa l (stp fa c s) = ev fb l (stp fb c s)
    rw [e, ih]
theorem vwl_t {s : Int} (h : s = 0 ∨ s = 4 ∨ s = 8 ∨ s = 14 ∨ s = 20) : vwl s = true := decide_eq_true h
theorem vwl_f {s : Int} (h : ¬ (s = 0 ∨ s = 4 ∨ s = 8 ∨ s = 14 ∨ s = 20)) : vwl s = false := decide_eq_false h
theorem usI_r {row : Int → Int} {i : Int} (h : 0 ≤ i) : 0 ≤ usI row i ∧ usI row i ≤ i := cI_le h
theorem fct_r {ab : Int → Bool} {ow row : Int → Int} {day n i k : Int} (hab : ∀ s, ab s = true → 0 ≤ s ∧ s < 29) (ho : -1 ≤ ow (row i) ∧ ow (row i) ≤ 8) (hday : 0 ≤ day ∧ day ≤ 9999) (hi : 0 ≤ i ∧ i < n ∧ n ≤ 60) (hr : 0 ≤ row i ∧ row i ≤ 29) : 0 ≤ fct ab ow day row n i k ∧ fct ab ow day row n i k ≤ 9999 := by
  have h1 := lgI_le (ab := ab) (row := row) (n := n) (i := i) (by omega)
  have h2 := usI_r (row := row) hi.1
  have h3 := b1_01 (vwl (row i))
  have h4 := b1_01 (isL row n i && !isL row n (i - 1))
  have h5 : 0 ≤ lfI ab row i ∧ lfI ab row i ≤ 29 := by
    unfold lfI
    split
    · rename_i e
      have := hab _ e.2
      omega
    · omega
  unfold fct fsI
  repeat' split
  all_goals omega
theorem faok_fct {ab : Int → Bool} {ow row : Int → Int} {day n i : Int} (hab : ∀ s, ab s = true → 0 ≤ s ∧ s < 29) (ho : -1 ≤ ow (row i) ∧ ow (row i) ≤ 8) (hday : 0 ≤ day ∧ day ≤ 9999) (hi : 0 ≤ i ∧ i < n ∧ n ≤ 60) (hr : 0 ≤ row i ∧ row i ≤ 29) : faok (fct ab ow day row n i) := by
  intro k _ _
  have := fct_r (k := k) hab ho hday hi hr
  constructor <;> omega
theorem aR_in {f : iF} (s : Int) (h : aR f s = true) : 0 ≤ s ∧ s < 29 := ⟨(aR_t.mp h).1, (aR_t.mp h).2.1⟩
theorem pyI_r {ab : Int → Bool} {ow row : Int → Int} {day n i : Int} {w : Lw} : 0 ≤ pyI ab ow day w row n i ∧ pyI ab ow day w row n i ≤ 99 := payM_r _ _
theorem clp_0 {v : Int} (h : v < 0) : clp v = 0 := by unfold clp; rw [if_pos h]
theorem clp_99 {v : Int} (h : 99 < v) : clp v = 99 := by unfold clp; rw [if_neg (by omega), if_pos h]
theorem clp_v {v : Int} (h : ¬ v < 0) (h2 : ¬ 99 < v) : clp v = v := by unfold clp; rw [if_neg h, if_neg h2]
set_option maxRecDepth 100000 in
set_option maxHeartbeats 4000000 in
theorem c_paysAt {i : Int} (hd : 4 ≤ d) (hi0 : 0 ≤ i) (hi1 : i < (f (fv 79 15) 0)) (hs : (f 89 i) < 29) (hr : (rwB f)) (ho : (oB f)) (hl : (lB f)) (hday : 0 ≤ (f (fv 79 12) 0) ∧ (f (fv 79 12) 0) ≤ 9999) (k0 : ∀ f1 : iF, Q (some (iI (pyI (aR f) (oR f) (f (fv 79 12) 0) (lwR f) (f 89) (f (fv 79 15) 0) i))) (mx [100, 101] f f1) g) : wq d 49 [iR 79, iI i] f g Q := by
  obtain ⟨d, rfl⟩ : ∃ e, d = e + 1 := ⟨d - 1, by omega⟩
  refine i_meth [(40, 2), (60, 2), (97, 2), (114, 2), (117, 3)] (fun n j lv st f' g' => (j = 40 ∧ ∃ (x : Int) (f1 : iF), lv = [some (iR 79), some (iI i)] ∧ st = [(iI x), (iI 4), (iR 100)] ∧ f' = (mx [100] f f1) ∧ g = g' ∧ (f1 100 0 = f 89 i) ∧ (f1 100 1 = i) ∧ (f1 100 2 = lgI (aR f) (f 89) (f (fv 79 15) 0) i) ∧ (f1 100 3 = usI (f 89) i) ∧ (x = b1 (vwl (f 89 i))) ∧ (n : Int) = 40) ∨ (j = 60 ∧ ∃ (x : Int) (f1 : iF), lv = [some (iR 79), some (iI i)] ∧ st = [(iI x), (iI 5), (iR 100)] ∧ f' = (mx [100] f f1) ∧ g = g' ∧ (f1 100 0 = f 89 i) ∧ (f1 100 1 = i) ∧ (f1 100 2 = lgI (aR f) (f 89) (f (fv 79 15) 0) i) ∧ (f1 100 3 = usI (f 89) i) ∧ (f1 100 4 = b1 (vwl (f 89 i))) ∧ (x = (if oR f (f 89 i) = -1 then 9 else oR f (f 89 i))) ∧ (n : Int) = 40) ∨ (j = 97 ∧ ∃ (x : Int) (f1 : iF), lv = [some (iR 79), some (iI i)] ∧ st = [(iI x), (iI 7), (iR 100)] ∧ f' = (mx [100] f f1) ∧ g = g' ∧ (f1 100 0 = f 89 i) ∧ (f1 100 1 = i) ∧ (f1 100 2 = lgI (aR f) (f 89) (f (fv 79 15) 0) i) ∧ (f1 100 3 = usI (f 89) i) ∧ (f1 100 4 = b1 (vwl (f 89 i))) ∧ (f1 100 5 = (if oR f (f 89 i) = -1 then 9 else oR f (f 89 i))) ∧ (f1 100 6 = f (fv 79 12) 0) ∧ (x = lfI (aR f) (f 89) i) ∧ (n : Int) = 40) ∨ (j = 114 ∧ ∃ (x : Int) (f1 : iF), lv = [some (iR 79), some (iI i)] ∧ st = [(iI x), (iI 8), (iR 100)] ∧ f' = (mx [100] f f1) ∧ g = g' ∧ (f1 100 0 = f 89 i) ∧ (f1 100 1 = i) ∧ (f1 100 2 = lgI (aR f) (f 89) (f (fv 79 15) 0) i) ∧ (f1 100 3 = usI (f 89) i) ∧ (f1 100 4 = b1 (vwl (f 89 i))) ∧ (f1 100 5 = (if oR f (f 89 i) = -1 then 9 else oR f (f 89 i))) ∧ (f1 100 6 = f (fv 79 12) 0) ∧ (f1 100 7 = lfI (aR f) (f 89) i) ∧ (x = fsI (f 89) (f (fv 79 15) 0) i) ∧ (n : Int) = 40) ∨ (j = 117 ∧ ∃ (l : Int) (f1 : iF), lv = [some (iR 79), some (iI i), some (iI l)] ∧ st = [] ∧ f' = (mx [100, 101] f f1) ∧ g = g' ∧ (∀ k, 0 ≤ k → k ≤ 8 → f1 100 k = (fct (aR f) (oR f) (f (fv 79 12) 0) (f 89) (f (fv 79 15) 0) i) k) ∧ (0 ≤ l ∧ l ≤ (f (fv 79 27) 0)) ∧ (payM (fct (aR f) (oR f) (f (fv 79 12) 0) (f 89) (f (fv 79 15) 0) i) (mkl (lnR f) ((f (fv 79 27) 0) - l).toNat l) = payM (fct (aR f) (oR f) (f (fv 79 12) 0) (f 89) (f (fv 79 15) 0) i) (lwR f)) ∧ (n : Int) = (f (fv 79 27) 0) - l)) 40 (by omega) rfl rfl (fun n j lv st f' g' hn hI O J hO hF hB => ?_) (fun hvs hin O J hO hF => ?_)
  · rcases hI with hI | hI | hI | hI | hI
    · obtain ⟨rfl, x, f1, rfl, rfl, rfl, rfl, zf0, zf1, zf2, zf3, hx, hm⟩ := hI
      have hl1 := hl.1
      have hr1 := hr.1
      have hri := hr.2 i (by omega) (by omega)
      refine ⟨show 0 ≤ (4 : Int) ∧ 4 < 9 from by decide, ?_⟩
      refine ⟨show 0 ≤ (i : Int) ∧ i < 60 from by omega, ?_⟩
      refine ⟨show 0 ≤ (f 89 i : Int) ∧ f 89 i < 29 from by omega, ?_⟩
      refine ⟨fun (hh_1 : f 86 (f 89 i) = 0) => ?_, fun (hh_1 : ¬ f 86 (f 89 i) = 0) => ?_⟩
      · refine hF (40 : Int).toNat ?_ (Or.inr (Or.inl ⟨rfl, 9, (wv f1 100 4 x), rfl, rfl, (mx_wv rfl rfl), rfl, ?_, ?_, ?_, ?_, ?_, ?_, ?_⟩))
        · omega
        · first | exact zf0 | exact hx | rfl
        · first | exact zf1 | exact hx | rfl
        · first | exact zf2 | exact hx | rfl
        · first | exact zf3 | exact hx | rfl
        · first | exact zf4 | exact hx | rfl
        · show _ = if f 86 (f 89 i) - 1 = -1 then (9 : Int) else f 86 (f 89 i) - 1
          first | rw [if_pos (by omega)] | rw [if_neg (by omega)]
        · omega
      · refine ⟨show 0 ≤ (i : Int) ∧ i < 60 from by omega, ?_⟩
        refine hO (c_ownerOf (by omega) (show 0 ≤ (f 89 i) from by omega) (show (f 89 i) < 29 from by omega) (show (oB f) from ho) ?_)
        refine hF (40 : Int).toNat ?_ (Or.inr (Or.inl ⟨rfl, (f 86 (f 89 i)) - 1, (wv f1 100 4 x), rfl, rfl, (mx_wv rfl rfl), rfl, ?_, ?_, ?_, ?_, ?_, ?_, ?_⟩))
        · omega
        · first | exact zf0 | exact hx | rfl
        · first | exact zf1 | exact hx | rfl
        · first | exact zf2 | exact hx | rfl
        · first | exact zf3 | exact hx | rfl
        · first | exact zf4 | exact hx | rfl
        · show _ = if f 86 (f 89 i) - 1 = -1 then (9 : Int) else f 86 (f 89 i) - 1
          first | rw [if_pos (by omega)] | rw [if_neg (by omega)]
        · omega
    · obtain ⟨rfl, x, f1, rfl, rfl, rfl, rfl, zf0, zf1, zf2, zf3, zf4, hx, hm⟩ := hI
      have hl1 := hl.1
      have hr1 := hr.1
      have hri := hr.2 i (by omega) (by omega)
      refine ⟨show 0 ≤ (5 : Int) ∧ 5 < 9 from by decide, ?_⟩
      refine ⟨show 0 ≤ (6 : Int) ∧ 6 < 9 from by decide, ?_⟩
      refine ⟨fun (hh_2 : i = 0) => ?_, fun (hh_2 : ¬ i = 0) => ?_⟩
      · refine hF (40 : Int).toNat ?_ (Or.inr (Or.inr (Or.inl ⟨rfl, 29, (wv (wv f1 100 5 x) 100 6 (f (fv 79 12) 0)), rfl, rfl, (mx_wv rfl (mx_wv rfl rfl)), rfl, ?_, ?_, ?_, ?_, ?_, ?_, ?_, ?_, ?_⟩)))
        · omega
        · first | exact zf0 | exact hx | rfl
        · first | exact zf1 | exact hx | rfl
        · first | exact zf2 | exact hx | rfl
        · first | exact zf3 | exact hx | rfl
        · first | exact zf4 | exact hx | rfl
        · first | exact zf5 | exact hx | rfl
        · first | exact zf6 | exact hx | rfl
        · unfold lfI
          first | rw [if_pos ⟨by omega, by assumption⟩] | rw [if_neg (fun h => by have h2 := aR_t.mp h.2; omega)] | rw [if_neg (fun h => absurd h.2 (by rw [‹aR f (f 89 (i - 1)) = false›]; decide))]
        · omega
      · have hri1 := hr.2 (i - 1) (by omega) (by omega)
        refine Or.inl ⟨show inr (i - 1) from by constructor <;> omega, ?_⟩
        refine ⟨show 0 ≤ ((i - 1) : Int) ∧ (i - 1) < 60 from by omega, ?_⟩
        refine ⟨fun (hh_3 : f 89 (i - 1) = 29) => ?_, fun (hh_3 : ¬ f 89 (i - 1) = 29) => ?_⟩
        · refine hF (40 : Int).toNat ?_ (Or.inr (Or.inr (Or.inl ⟨rfl, 29, (wv (wv f1 100 5 x) 100 6 (f (fv 79 12) 0)), rfl, rfl, (mx_wv rfl (mx_wv rfl rfl)), rfl, ?_, ?_, ?_, ?_, ?_, ?_, ?_, ?_, ?_⟩)))
          · omega
          · first | exact zf0 | exact hx | rfl
          · first | exact zf1 | exact hx | rfl
          · first | exact zf2 | exact hx | rfl
          · first | exact zf3 | exact hx | rfl
          · first | exact zf4 | exact hx | rfl
          · first | exact zf5 | exact hx | rfl
          · first | exact zf6 | exact hx | rfl
          · unfold lfI
            first | rw [if_pos ⟨by omega, by assumption⟩] | rw [if_neg (fun h => by have h2 := aR_t.mp h.2; omega)] | rw [if_neg (fun h => absurd h.2 (by rw [‹aR f (f 89 (i - 1)) = false›]; decide))]
          · omega
        · refine Or.inl ⟨show inr (i - 1) from by constructor <;> omega, ?_⟩
          refine ⟨show 0 ≤ ((i - 1) : Int) ∧ (i - 1) < 60 from by omega, ?_⟩
          refine hO (c_canP (by omega) (show 0 ≤ (f 89 (i - 1)) from by omega) (show (f 89 (i - 1)) < 29 from by omega) (show (oB f) from ho) (fun (hh_4 : (aR f) (f 89 (i - 1)) = true) => ?_) (fun (hh_5 : (aR f) (f 89 (i - 1)) = false) => ?_))
          · refine ⟨fun h => absurd (show (1 : Int) = 0 from h) (by decide), fun _ => ?_⟩
            refine Or.inl ⟨show inr (i - 1) from by constructor <;> omega, ?_⟩
            refine ⟨show 0 ≤ ((i - 1) : Int) ∧ (i - 1) < 60 from by omega, ?_⟩
            refine hF (40 : Int).toNat ?_ (Or.inr (Or.inr (Or.inl ⟨rfl, f 89 (i - 1), (wv (wv f1 100 5 x) 100 6 (f (fv 79 12) 0)), rfl, rfl, (mx_wv rfl (mx_wv rfl rfl)), rfl, ?_, ?_, ?_, ?_, ?_, ?_, ?_, ?_, ?_⟩)))
            · omega
            · first | exact zf0 | exact hx | rfl
            · first | exact zf1 | exact hx | rfl
            · first | exact zf2 | exact hx | rfl
            · first | exact zf3 | exact hx | rfl
            · first | exact zf4 | exact hx | rfl
            · first | exact zf5 | exact hx | rfl
            · first | exact zf6 | exact hx | rfl
            · unfold lfI
              first | rw [if_pos ⟨by omega, by assumption⟩] | rw [if_neg (fun h => by have h2 := aR_t.mp h.2; omega)] | rw [if_neg (fun h => absurd h.2 (by rw [‹aR f (f 89 (i - 1)) = false›]; decide))]
            · omega
          · refine ⟨fun _ => ?_, fun h => absurd (show (0 : Int) = 0 from by decide) h⟩
            refine hF (40 : Int).toNat ?_ (Or.inr (Or.inr (Or.inl ⟨rfl, 29, (wv (wv f1 100 5 x) 100 6 (f (fv 79 12) 0)), rfl, rfl, (mx_wv rfl (mx_wv rfl rfl)), rfl, ?_, ?_, ?_, ?_, ?_, ?_, ?_, ?_, ?_⟩)))
            · omega
            · first | exact zf0 | exact hx | rfl
            · first | exact zf1 | exact hx | rfl
            · first | exact zf2 | exact hx | rfl
            · first | exact zf3 | exact hx | rfl
            · first | exact zf4 | exact hx | rfl
            · first | exact zf5 | exact hx | rfl
            · first | exact zf6 | exact hx | rfl
            · unfold lfI
              first | rw [if_pos ⟨by omega, by assumption⟩] | rw [if_neg (fun h => by have h2 := aR_t.mp h.2; omega)] | rw [if_neg (fun h => absurd h.2 (by rw [‹aR f (f 89 (i - 1)) = false›]; decide))]
            · omega
    · obtain ⟨rfl, x, f1, rfl, rfl, rfl, rfl, zf0, zf1, zf2, zf3, zf4, zf5, zf6, hx, hm⟩ := hI
      have hl1 := hl.1
      have hr1 := hr.1
      have hri := hr.2 i (by omega) (by omega)
      refine ⟨show 0 ≤ (7 : Int) ∧ 7 < 9 from by decide, ?_⟩
      refine hO (c_isLAt (by omega) (show (rwB f) from hr) (fun (hh_6 : isL (f 89) (f (fv 79 15) 0) i = true) => ?_) (fun (hh_7 : isL (f 89) (f (fv 79 15) 0) i = false) => ?_))
      · refine ⟨fun h => absurd (show (1 : Int) = 0 from h) (by decide), fun _ => ?_⟩
        refine Or.inl ⟨show inr (i - 1) from by constructor <;> omega, ?_⟩
        refine hO (c_isLAt (by omega) (show (rwB f) from hr) (fun (hh_8 : isL (f 89) (f (fv 79 15) 0) (i - 1) = true) => ?_) (fun (hh_9 : isL (f 89) (f (fv 79 15) 0) (i - 1) = false) => ?_))
        · refine ⟨fun h => absurd (show (1 : Int) = 0 from h) (by decide), fun _ => ?_⟩
          refine hF (40 : Int).toNat ?_ (Or.inr (Or.inr (Or.inr (Or.inl ⟨rfl, 0, (wv f1 100 7 x), rfl, rfl, (mx_wv rfl rfl), rfl, ?_, ?_, ?_, ?_, ?_, ?_, ?_, ?_, ?_, ?_⟩))))
          · omega
          · first | exact zf0 | exact hx | rfl
          · first | exact zf1 | exact hx | rfl
          · first | exact zf2 | exact hx | rfl
          · first | exact zf3 | exact hx | rfl
          · first | exact zf4 | exact hx | rfl
          · first | exact zf5 | exact hx | rfl
          · first | exact zf6 | exact hx | rfl
          · first | exact zf7 | exact hx | rfl
          · unfold fsI
            first | (rw [‹isL (f 89) (f (fv 79 15) 0) i = false›]; rfl) | (rw [‹isL (f 89) (f (fv 79 15) 0) i = true›, ‹isL (f 89) (f (fv 79 15) 0) (i - 1) = true›]; rfl) | (rw [‹isL (f 89) (f (fv 79 15) 0) i = true›, ‹isL (f 89) (f (fv 79 15) 0) (i - 1) = false›]; rfl)
          · omega
        · refine ⟨fun _ => ?_, fun h => absurd (show (0 : Int) = 0 from by decide) h⟩
          refine hF (40 : Int).toNat ?_ (Or.inr (Or.inr (Or.inr (Or.inl ⟨rfl, 1, (wv f1 100 7 x), rfl, rfl, (mx_wv rfl rfl), rfl, ?_, ?_, ?_, ?_, ?_, ?_, ?_, ?_, ?_, ?_⟩))))
          · omega
          · first | exact zf0 | exact hx | rfl
          · first | exact zf1 | exact hx | rfl
          · first | exact zf2 | exact hx | rfl
          · first | exact zf3 | exact hx | rfl
          · first | exact zf4 | exact hx | rfl
          · first | exact zf5 | exact hx | rfl
          · first | exact zf6 | exact hx | rfl
          · first | exact zf7 | exact hx | rfl
          · unfold fsI
            first | (rw [‹isL (f 89) (f (fv 79 15) 0) i = false›]; rfl) | (rw [‹isL (f 89) (f (fv 79 15) 0) i = true›, ‹isL (f 89) (f (fv 79 15) 0) (i - 1) = true›]; rfl) | (rw [‹isL (f 89) (f (fv 79 15) 0) i = true›, ‹isL (f 89) (f (fv 79 15) 0) (i - 1) = false›]; rfl)
          · omega
      · refine ⟨fun _ => ?_, fun h => absurd (show (0 : Int) = 0 from by decide) h⟩
        refine hF (40 : Int).toNat ?_ (Or.inr (Or.inr (Or.inr (Or.inl ⟨rfl, 0, (wv f1 100 7 x), rfl, rfl, (mx_wv rfl rfl), rfl, ?_, ?_, ?_, ?_, ?_, ?_, ?_, ?_, ?_, ?_⟩))))
        · omega
        · first | exact zf0 | exact hx | rfl
        · first | exact zf1 | exact hx | rfl
        · first | exact zf2 | exact hx | rfl
        · first | exact zf3 | exact hx | rfl
        · first | exact zf4 | exact hx | rfl
        · first | exact zf5 | exact hx | rfl
        · first | exact zf6 | exact hx | rfl
        · first | exact zf7 | exact hx | rfl
        · unfold fsI
          first | (rw [‹isL (f 89) (f (fv 79 15) 0) i = false›]; rfl) | (rw [‹isL (f 89) (f (fv 79 15) 0) i = true›, ‹isL (f 89) (f (fv 79 15) 0) (i - 1) = true›]; rfl) | (rw [‹isL (f 89) (f (fv 79 15) 0) i = true›, ‹isL (f 89) (f (fv 79 15) 0) (i - 1) = false›]; rfl)
        · omega
    · obtain ⟨rfl, x, f1, rfl, rfl, rfl, rfl, zf0, zf1, zf2, zf3, zf4, zf5, zf6, zf7, hx, hm⟩ := hI
      have hl1 := hl.1
      have hr1 := hr.1
      have hri := hr.2 i (by omega) (by omega)
      refine ⟨show 0 ≤ (8 : Int) ∧ 8 < 9 from by decide, ?_⟩
      refine hF ((f (fv 79 27) 0) - 0 : Int).toNat ?_ (Or.inr (Or.inr (Or.inr (Or.inr (⟨rfl, 0, (wv (mx [100] f f1) 100 8 x), rfl, rfl, (mx_wv rfl (mx_mx rfl mx_rf)), rfl, ?_, ?_, ?_, ?_⟩)))))
      · omega
      · intro k h0 h1
        have h : k = 0 ∨ k = 1 ∨ k = 2 ∨ k = 3 ∨ k = 4 ∨ k = 5 ∨ k = 6 ∨ k = 7 ∨ k = 8 := by omega
        rcases h with h | h | h | h | h | h | h | h | h <;> subst h
        · exact zf0
        · exact zf1
        · exact zf2
        · exact zf3
        · exact zf4
        · exact zf5
        · exact zf6
        · exact zf7
        · exact hx
      · omega
      · rw [show f (fv 79 27) 0 - 0 = f (fv 79 27) 0 by omega]; rfl
      · omega
    · obtain ⟨rfl, l, f1, rfl, rfl, rfl, rfl, hf, hl2, hp, hm⟩ := hI
      have hr1 := hr.1
      have hri := hr.2 i (by omega) (by omega)
      have hl1 := hl.1
      have hfa : faok (f1 100) := fun k h0 h1 => by rw [hf k h0 h1]; exact faok_fct aR_in (by have := ho (f 89 i) (by omega) (by omega); unfold oR; omega) hday (by omega) (by omega) k h0 h1
      refine ⟨fun (hh_10 : l < f (fv 79 27) 0) => ?_, fun (hh_10 : ¬ l < f (fv 79 27) 0) => ?_⟩
      · have hln := hl.2.1 l (by omega) (by omega)
        refine hO (c_isSo (by omega) (show 0 ≤ l from by omega) (show l < (f (fv 79 27) 0) from by omega) (show (lB f) from hl) (show faok (f1 100) from hfa) (fun f1_11 (hh_12 : ((lnR f) l).2 = [] ∨ ¬ hdv (ev (f1 100) ((lnR f) l).2 []) = 0) => ?_) (fun f1_13 (hh_14 : ¬ (((lnR f) l).2 = [] ∨ ¬ hdv (ev (f1 100) ((lnR f) l).2 []) = 0)) => ?_))
        · have hso := hh_12
          rw [ev_cg hf] at hso
          refine ⟨fun h => absurd (show (1 : Int) = 0 from h) (by decide), fun _ => ?_⟩
          refine ⟨show 0 ≤ (l : Int) ∧ l < 32 from by omega, ?_⟩
          refine ⟨show 0 ≤ (l : Int) ∧ l < 32 from by omega, ?_⟩
          refine hO (c_runs (by omega) (show 0 ≤ (f 95 l) ∧ (f 95 l) < (f 94 l) ∧ (f 94 l) ≤ 400 from by omega) (show ∃ t, tyl (sl (rcd f) (f 95 l) (f 94 l)) [] = some [t] from by obtain ⟨t, -, ht⟩ := hln.2.2.2.2.1; exact ⟨t, ht⟩) (show ∀ k, 0 ≤ k → k < 400 → opok (f 97 k) (f 98 k) from hl.2.2) (show faok (f1 100) from hfa) (fun f1_15 => ?_))
          refine ⟨fun (hh_16 : hdv (ev (f1 100) (sl (rcd f) (f 95 l) (f 94 l)) []) < 0) => ?_, fun (hh_16 : ¬ hdv (ev (f1 100) (sl (rcd f) (f 95 l) (f 94 l)) []) < 0) => ?_⟩
          · rw [show (mx [101] (mx [101] (mx [100, 101] f f1) f1_11) f1_15) = mx [100, 101] f (mx [101] (mx [101] f1 f1_11) f1_15) from (mx_mx rfl (mx_mx rfl rfl))]
            have he : pyI (aR f) (oR f) (f (fv 79 12) 0) (lwR f) (f 89) (f (fv 79 15) 0) i = clp (hdv (ev (f1 100) (sl (rcd f) (f 95 l) (f 94 l)) [])) := by show payM _ _ = _; rw [← hp, show (f (fv 79 27) 0 - l).toNat = (f (fv 79 27) 0 - (l + 1)).toNat + 1 by omega, mkl, payM, if_pos hso, ev_cg hf]; rfl
            rw [he, clp_0 (by assumption)] at k0
            exact k0 (mx [101] (mx [101] f1 f1_11) f1_15)
          · refine ⟨fun (hh_17 : 99 < hdv (ev (f1 100) (sl (rcd f) (f 95 l) (f 94 l)) [])) => ?_, fun (hh_17 : ¬ 99 < hdv (ev (f1 100) (sl (rcd f) (f 95 l) (f 94 l)) [])) => ?_⟩
            · rw [show (mx [101] (mx [101] (mx [100, 101] f f1) f1_11) f1_15) = mx [100, 101] f (mx [101] (mx [101] f1 f1_11) f1_15) from (mx_mx rfl (mx_mx rfl rfl))]
              have he : pyI (aR f) (oR f) (f (fv 79 12) 0) (lwR f) (f 89) (f (fv 79 15) 0) i = clp (hdv (ev (f1 100) (sl (rcd f) (f 95 l) (f 94 l)) [])) := by show payM _ _ = _; rw [← hp, show (f (fv 79 27) 0 - l).toNat = (f (fv 79 27) 0 - (l + 1)).toNat + 1 by omega, mkl, payM, if_pos hso, ev_cg hf]; rfl
              rw [he, clp_99 (by assumption)] at k0
              exact k0 (mx [101] (mx [101] f1 f1_11) f1_15)
            · rw [show (mx [101] (mx [101] (mx [100, 101] f f1) f1_11) f1_15) = mx [100, 101] f (mx [101] (mx [101] f1 f1_11) f1_15) from (mx_mx rfl (mx_mx rfl rfl))]
              have he : pyI (aR f) (oR f) (f (fv 79 12) 0) (lwR f) (f 89) (f (fv 79 15) 0) i = clp (hdv (ev (f1 100) (sl (rcd f) (f 95 l) (f 94 l)) [])) := by show payM _ _ = _; rw [← hp, show (f (fv 79 27) 0 - l).toNat = (f (fv 79 27) 0 - (l + 1)).toNat + 1 by omega, mkl, payM, if_pos hso, ev_cg hf]; rfl
              rw [he, clp_v (by assumption) (by assumption)] at k0
              exact k0 (mx [101] (mx [101] f1 f1_11) f1_15)
        · have hso := hh_14
          rw [ev_cg hf] at hso
          refine ⟨fun _ => ?_, fun h => absurd (show (0 : Int) = 0 from by decide) h⟩
          refine ⟨show inr (l + 1) from by constructor <;> omega, ?_⟩
          refine hB ((f (fv 79 27) 0) - (l + 1) : Int).toNat ?_ (Or.inr (Or.inr (Or.inr (Or.inr (⟨rfl, (l + 1), (mx [101] f1 f1_13), rfl, rfl, (mx_mx rfl rfl), rfl, ?_, ?_, ?_, ?_⟩)))))
          · omega
          · exact hf
          · omega
          · rw [← hp, show (f (fv 79 27) 0 - l).toNat = (f (fv 79 27) 0 - (l + 1)).toNat + 1 by omega, mkl, payM, if_neg hso]
          · omega
      · have he : pyI (aR f) (oR f) (f (fv 79 12) 0) (lwR f) (f 89) (f (fv 79 15) 0) i = 1 := by show payM _ _ = 1; rw [← hp, show (f (fv 79 27) 0 - l).toNat = 0 by omega]; rfl
        rw [he] at k0
        exact k0 f1
  · have hr1 := hr.1
    have hri := hr.2 i (by omega) (by omega)
    refine ⟨show 0 ≤ (i : Int) ∧ i < 60 from by omega, ?_⟩
    refine ⟨show 0 ≤ (0 : Int) ∧ 0 < 9 from by decide, ?_⟩
    refine ⟨show 0 ≤ (1 : Int) ∧ 1 < 9 from by decide, ?_⟩
    refine hO (c_longAt (by omega) (show 0 ≤ i from hi0) (show i < (f (fv 79 15) 0) from hi1) (show (rwB f) from hr) (show (oB f) from ho) ?_)
    refine ⟨show 0 ≤ (2 : Int) ∧ 2 < 9 from by decide, ?_⟩
    refine hO (c_usedAt (by omega) (show 0 ≤ i from by omega) (show i < 60 from by omega) ?_)
    refine ⟨show 0 ≤ (3 : Int) ∧ 3 < 9 from by decide, ?_⟩
    refine ⟨show 0 ≤ (i : Int) ∧ i < 60 from by omega, ?_⟩
    refine hO (c_isVowel (by omega) (fun (hh_18 : ((f 89 i) = 0 ∨ (f 89 i) = 4 ∨ (f 89 i) = 8 ∨ (f 89 i) = 14 ∨ (f 89 i) = 20)) => ?_) (fun (hh_19 : ¬ (((f 89 i) = 0 ∨ (f 89 i) = 4 ∨ (f 89 i) = 8 ∨ (f 89 i) = 14 ∨ (f 89 i) = 20))) => ?_))
    · refine ⟨fun h => absurd (show (1 : Int) = 0 from h) (by decide), fun _ => ?_⟩
      refine hF (40 : Int).toNat ?_ (Or.inl ⟨rfl, 1, (wv (wv (wv (wv f 100 0 (f 89 i)) 100 1 i) 100 2 (lgI (aR f) (f 89) (f (fv 79 15) 0) i)) 100 3 (usI (f 89) i)), rfl, rfl, (mx_wv rfl (mx_wv rfl (mx_wv rfl (mx_wv rfl mx_rf)))), rfl, ?_, ?_, ?_, ?_, ?_, ?_⟩)
      · omega
      · first | exact zf0 | exact hx | rfl
      · first | exact zf1 | exact hx | rfl
      · first | exact zf2 | exact hx | rfl
      · first | exact zf3 | exact hx | rfl
      · first | (rw [vwl_t (by assumption)]; rfl) | (rw [vwl_f (by assumption)]; rfl)
      · omega
    · refine ⟨fun _ => ?_, fun h => absurd (show (0 : Int) = 0 from by decide) h⟩
      refine hF (40 : Int).toNat ?_ (Or.inl ⟨rfl, 0, (wv (wv (wv (wv f 100 0 (f 89 i)) 100 1 i) 100 2 (lgI (aR f) (f 89) (f (fv 79 15) 0) i)) 100 3 (usI (f 89) i)), rfl, rfl, (mx_wv rfl (mx_wv rfl (mx_wv rfl (mx_wv rfl mx_rf)))), rfl, ?_, ?_, ?_, ?_, ?_, ?_⟩)
      · omega
      · first | exact zf0 | exact hx | rfl
      · first | exact zf1 | exact hx | rfl
      · first | exact zf2 | exact hx | rfl
      · first | exact zf3 | exact hx | rfl
      · first | (rw [vwl_t (by assumption)]; rfl) | (rw [vwl_f (by assumption)]; rfl)
      · omega
set_option maxRecDepth 100000 in
set_option maxHeartbeats 4000000 in
theorem c_finds (hd : 5 ≤ d) (hr : (rwB f)) (ho : (oB f)) (hl : (lB f)) (hday : 0 ≤ (f (fv 79 12) 0) ∧ (f (fv 79 12) 0) ≤ 9999) (k0 : ∀ f1 : iF, (∀ a, 0 ≤ a → a < 8 → f1 102 a = enI (aR f) (oR f) (f (fv 79 12) 0) (lwR f) (f 89) (f (fv 79 15) 0) a) → Q none (mx [100, 101, 102] f f1) g) : wq d 50 [iR 79] f g Q := by
  obtain ⟨d, rfl⟩ : ∃ e, d = e + 1 := ⟨d - 1, by omega⟩
  refine i_meth [(2, 2), (14, 2)] (fun n j lv st f' g' => (j = 2 ∧ ∃ (b : Int) (f1 : iF), lv = [some (iR 79), some (iI b)] ∧ st = [] ∧ f' = (mx [100, 101, 102] f f1) ∧ g = g' ∧ (0 ≤ b ∧ b ≤ 8) ∧ (∀ a, 0 ≤ a → a < b → f1 102 a = 0) ∧ (n : Int) = 70 - b) ∨ (j = 14 ∧ ∃ (i : Int) (f1 : iF), lv = [some (iR 79), some (iI i)] ∧ st = [] ∧ f' = (mx [100, 101, 102] f f1) ∧ g = g' ∧ (0 ≤ i ∧ i ≤ (f (fv 79 15) 0)) ∧ (∀ a, 0 ≤ a → a < 8 → f1 102 a = sI (fun i => if aR f (f 89 i) = true ∧ oR f (f 89 i) = a then pyI (aR f) (oR f) (f (fv 79 12) 0) (lwR f) (f 89) (f (fv 79 15) 0) i else 0) i) ∧ (n : Int) = (f (fv 79 15) 0) - i)) 100 (by omega) rfl rfl (fun n j lv st f' g' hn hI O J hO hF hB => ?_) (fun hvs hin O J hO hF => ?_)
  · rcases hI with hI | hI
    · obtain ⟨rfl, b, f1, rfl, rfl, rfl, rfl, hb, hz, hm⟩ := hI
      have hr1 := hr.1
      refine ⟨fun (hh_1 : b < 8) => ?_, fun (hh_1 : ¬ b < 8) => ?_⟩
      · refine ⟨show 0 ≤ (b : Int) ∧ b < 8 from by omega, ?_⟩
        refine ⟨show inr (b + 1) from by constructor <;> omega, ?_⟩
        refine hB (70 - (b + 1) : Int).toNat ?_ (Or.inl ⟨rfl, (b + 1), (wv f1 102 b 0), rfl, rfl, (mx_wv rfl rfl), rfl, ?_, ?_, ?_⟩)
        · omega
        · omega
        · intro a h0 h1
          rw [wv_i]
          by_cases e : a = b
          · rw [if_pos e]
          · rw [if_neg e]; exact hz a h0 (by omega)
        · omega
      · refine hF ((f (fv 79 15) 0) - 0 : Int).toNat ?_ (Or.inr (⟨rfl, 0, f1, rfl, rfl, rfl, rfl, ?_, ?_, ?_⟩))
        · omega
        · omega
        · intro a h0 h1
          exact hz a h0 (by omega)
        · omega
    · obtain ⟨rfl, i, f1, rfl, rfl, rfl, rfl, hi, hE, hm⟩ := hI
      have hr1 := hr.1
      refine ⟨fun (hh_2 : i < f (fv 79 15) 0) => ?_, fun (hh_2 : ¬ i < f (fv 79 15) 0) => ?_⟩
      · have hri := hr.2 i (by omega) (by omega)
        refine ⟨show 0 ≤ (i : Int) ∧ i < 60 from by omega, ?_⟩
        refine ⟨fun (hh_3 : f 89 i = 29) => ?_, fun (hh_3 : ¬ f 89 i = 29) => ?_⟩
        · refine ⟨show inr (i + 1) from by constructor <;> omega, ?_⟩
          refine hB ((f (fv 79 15) 0) - (i + 1) : Int).toNat ?_ (Or.inr (⟨rfl, (i + 1), f1, rfl, rfl, rfl, rfl, ?_, ?_, ?_⟩))
          · omega
          · omega
          · intro a h0 h1
            rw [sI_s (by omega), if_neg (fun h => by first | (have h2 := aR_t.mp h.1; omega) | (rw [‹aR f (f 89 i) = false›] at h; cases h.1)), Int.add_zero]; exact hE a h0 h1
          · omega
        · refine ⟨show 0 ≤ (i : Int) ∧ i < 60 from by omega, ?_⟩
          refine hO (c_canP (by omega) (show 0 ≤ (f 89 i) from by omega) (show (f 89 i) < 29 from by omega) (show (oB f) from ho) (fun (hh_4 : (aR f) (f 89 i) = true) => ?_) (fun (hh_5 : (aR f) (f 89 i) = false) => ?_))
          · have hab := aR_t.mp hh_4
            have hob := ho (f 89 i) (by omega) (by omega)
            have hEa := hE (f 86 (f 89 i) - 1) (by omega) (by omega)
            have hEb := sI_le (h := (fun j => if aR f (f 89 j) = true ∧ oR f (f 89 j) = f 86 (f 89 i) - 1 then pyI (aR f) (oR f) (f (fv 79 12) 0) (lwR f) (f 89) (f (fv 79 15) 0) j else 0)) (n := i) (c := 99) (by omega) (by omega) (fun k _ _ => by split; exact pyI_r; decide)
            refine ⟨fun h => absurd (show (1 : Int) = 0 from h) (by decide), fun _ => ?_⟩
            refine ⟨show 0 ≤ (i : Int) ∧ i < 60 from by omega, ?_⟩
            refine hO (c_ownerOf (by omega) (show 0 ≤ (f 89 i) from by omega) (show (f 89 i) < 29 from by omega) (show (oB f) from ho) ?_)
            refine ⟨show 0 ≤ ((f 86 (f 89 i)) - 1 : Int) ∧ (f 86 (f 89 i)) - 1 < 8 from by omega, ?_⟩
            refine hO (c_paysAt (by omega) (show 0 ≤ i from by omega) (show i < (f (fv 79 15) 0) from by omega) (show (f 89 i) < 29 from by omega) (show (rwB f) from hr) (show (oB f) from ho) (show (lB f) from hl) (show 0 ≤ (f (fv 79 12) 0) ∧ (f (fv 79 12) 0) ≤ 9999 from hday) (fun f1_6 => ?_))
            have hpr := pyI_r (ab := aR f) (ow := oR f) (day := f (fv 79 12) 0) (w := lwR f) (row := f 89) (n := (f (fv 79 15) 0)) (i := i)
            refine Or.inl ⟨show inr ((f1 102 ((f 86 (f 89 i)) - 1)) + (pyI (aR f) (oR f) (f (fv 79 12) 0) (lwR f) (f 89) (f (fv 79 15) 0) i)) from by constructor <;> omega, ?_⟩
            refine ⟨show 0 ≤ ((f 86 (f 89 i)) - 1 : Int) ∧ (f 86 (f 89 i)) - 1 < 8 from by omega, ?_⟩
            refine ⟨show inr (i + 1) from by constructor <;> omega, ?_⟩
            refine hB ((f (fv 79 15) 0) - (i + 1) : Int).toNat ?_ (Or.inr (⟨rfl, (i + 1), (wv (mx [100, 101] f1 f1_6) 102 ((f 86 (f 89 i)) - 1) ((f1 102 ((f 86 (f 89 i)) - 1)) + (pyI (aR f) (oR f) (f (fv 79 12) 0) (lwR f) (f 89) (f (fv 79 15) 0) i))), rfl, rfl, (mx_wv rfl (mx_mx rfl rfl)), rfl, ?_, ?_, ?_⟩))
            · omega
            · omega
            · intro a h0 h1
              rw [sI_s (by omega), wv_i]
              by_cases e : a = f 86 (f 89 i) - 1
              · subst e
                rw [if_pos rfl, if_pos ⟨by assumption, rfl⟩]
                exact congrArg (· + pyI (aR f) (oR f) (f (fv 79 12) 0) (lwR f) (f 89) (f (fv 79 15) 0) i) (hE _ (by omega) (by omega))
              · rw [if_neg e, if_neg (fun h => e h.2.symm), Int.add_zero]; exact hE a h0 h1
            · omega
          · refine ⟨fun _ => ?_, fun h => absurd (show (0 : Int) = 0 from by decide) h⟩
            refine ⟨show inr (i + 1) from by constructor <;> omega, ?_⟩
            refine hB ((f (fv 79 15) 0) - (i + 1) : Int).toNat ?_ (Or.inr (⟨rfl, (i + 1), f1, rfl, rfl, rfl, rfl, ?_, ?_, ?_⟩))
            · omega
            · omega
            · intro a h0 h1
              rw [sI_s (by omega), if_neg (fun h => by first | (have h2 := aR_t.mp h.1; omega) | (rw [‹aR f (f 89 i) = false›] at h; cases h.1)), Int.add_zero]; exact hE a h0 h1
            · omega
      · exact k0 f1 (fun a h0 h1 => by rw [hE a h0 h1]; rw [show i = (f (fv 79 15) 0) by omega]; rfl)
  · have hr1 := hr.1
    refine hF (70 - 0 : Int).toNat ?_ (Or.inl ⟨rfl, 0, f, rfl, rfl, mx_rf, rfl, ?_, ?_, ?_⟩)
    · omega
    · omega
    · intro a h0 h1; omega
    · omega
/-- the page -/
def pgB (f : iF) : Prop := (0 ≤ f (fv 79 13) 0 ∧ f (fv 79 13) 0 ≤ 60) ∧ ∀ i, 0 ≤ i → i < f (fv 79 13) 0 → 0 ≤ f 88 i ∧ f 88 i ≤ 29
set_option maxRecDepth 100000 in
set_option maxHeartbeats 4000000 in
theorem c_thinks (hd : 1 ≤ d) (hg : (pgB f)) (k0 : ∀ f1 : iF, (f1 (fv 79 15) 0 = (f (fv 79 13) 0)) → (∀ i, 0 ≤ i → i < (f (fv 79 13) 0) → f1 89 i = (f 88 i)) → Q none (mx [89, fv 79 15] f f1) g) : wq d 18 [iR 79] f g Q := by
  obtain ⟨d, rfl⟩ : ∃ e, d = e + 1 := ⟨d - 1, by omega⟩
  refine i_meth [(6, 2)] (fun n j lv st f' g' => (j = 6 ∧ ∃ (i : Int) (f1 : iF), lv = [some (iR 79), some (iI i)] ∧ st = [] ∧ f' = (mx [89, fv 79 15] f f1) ∧ g = g' ∧ (0 ≤ i ∧ i ≤ (f (fv 79 13) 0)) ∧ (f1 (fv 79 15) 0 = (f (fv 79 13) 0)) ∧ (∀ k, 0 ≤ k → k < i → f1 89 k = f 88 k) ∧ (n : Int) = (f (fv 79 13) 0) - i)) 60 (by omega) rfl rfl (fun n j lv st f' g' hn hI O J hO hF hB => ?_) (fun hvs hin O J hO hF => ?_)
  · obtain ⟨rfl, i, f1, rfl, rfl, rfl, rfl, hi, hn, hz, hm⟩ := hI
    have hg1 := hg.1
    refine ⟨fun (hh_1 : i < f (fv 79 13) 0) => ?_, fun (hh_1 : ¬ i < f (fv 79 13) 0) => ?_⟩
    · refine ⟨show 0 ≤ (i : Int) ∧ i < 60 from by omega, ?_⟩
      refine ⟨show 0 ≤ (i : Int) ∧ i < 60 from by omega, ?_⟩
      refine ⟨show inr (i + 1) from by constructor <;> omega, ?_⟩
      refine hB ((f (fv 79 13) 0) - (i + 1) : Int).toNat ?_ ⟨rfl, (i + 1), (wv f1 89 i (f 88 i)), rfl, rfl, (mx_wv rfl rfl), rfl, ?_, ?_, ?_, ?_⟩
      · omega
      · omega
      · exact hn
      · intro k h0 h1
        rw [wv_i]
        by_cases e : k = i
        · rw [if_pos e, e]
        · rw [if_neg e]; exact hz k h0 (by omega)
      · omega
    · exact k0 f1 hn (fun k h0 h1 => hz k h0 (by omega))
  · have hg1 := hg.1
    refine hF ((f (fv 79 13) 0) - 0 : Int).toNat ?_ ⟨rfl, 0, (wv f (fv 79 15) 0 (f (fv 79 13) 0)), rfl, rfl, (mx_wv rfl mx_rf), rfl, ?_, ?_, ?_, ?_⟩
    · omega
    · omega
    · rfl
    · intro k h0 h1; omega
    · omega
end C5
