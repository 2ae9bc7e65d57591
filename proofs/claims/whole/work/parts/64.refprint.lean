section C14
variable {d : Nat} {f : iF} {g : iG} {Q : Option iv → iF → iG → Prop}
theorem bk_r {ow now : Int → Int} {s pay : Int} (hb : (∀ a, 0 ≤ a → a < 8 → 0 ≤ now a ∧ now a ≤ 99999) ∧ 0 ≤ now 37 ∧ now 37 ≤ 200) (ho : 0 ≤ ow s ∧ ow s < 8) (hs : 0 ≤ s ∧ s < 29) (hp : 0 ≤ pay ∧ pay ≤ 99) : (∀ a, 0 ≤ a → a < 8 → 0 ≤ bkN ow now s pay a ∧ bkN ow now s pay a ≤ 99999) ∧ 0 ≤ bkN ow now s pay 37 ∧ bkN ow now s pay 37 ≤ 200 := by
  refine ⟨fun a h0 h1 => ?_, ?_⟩
  · unfold bkN
    rw [up_n (by omega), up_n (by omega)]
    by_cases e : a = ow s
    · rw [e, up_s]
      have := hb.1 (ow s) ho.1 ho.2
      unfold pur
      split <;> omega
    · rw [up_n e]
      exact hb.1 a h0 h1
  · unfold bkN
    rw [up_s]
    have := hb.2
    split <;> omega
set_option maxRecDepth 100000 in
set_option maxHeartbeats 4000000 in
theorem c_least {a : Int} (hd : 2 ≤ d) (hx : ∃ t, 0 ≤ t ∧ t < 29 ∧ (f 86 t) - 1 = a) (ho : (oB f)) (k0 : Q (some (iI (lsI (oR f) a))) f g) : wq d 51 [iR 79, iI a] f g Q := by
  obtain ⟨d, rfl⟩ : ∃ e, d = e + 1 := ⟨d - 1, by omega⟩
  refine i_meth [(2, 3)] (fun n j lv st f' g' => (j = 2 ∧ ∃ (s : Int), lv = [some (iR 79), some (iI a), some (iI s)] ∧ st = [] ∧ f = f' ∧ g = g' ∧ (0 ≤ s ∧ s < 29) ∧ (lsI (oR f) a = lsF (oR f) a (29 - s).toNat s) ∧ (∃ t, s ≤ t ∧ t < 29 ∧ f 86 t - 1 = a) ∧ (n : Int) = 29 - s)) 30 (by omega) rfl rfl (fun n j lv st f' g' hn hI O J hO hF hB => ?_) (fun hvs hin O J hO hF => ?_)
  · obtain ⟨rfl, s, rfl, rfl, rfl, rfl, hs, hl, ht, hm⟩ := hI
    refine hO (c_ownerOf (by omega) (show 0 ≤ s from by omega) (show s < 29 from by omega) (show (oB f) from ho) ?_)
    refine ⟨fun (hh_1 : (f 86 s) - 1 = a) => ?_, fun (hh_1 : ¬ (f 86 s) - 1 = a) => ?_⟩
    · rw [show lsI (oR f) a = s from by rw [hl, show (29 - s).toNat = (29 - (s + 1)).toNat + 1 by omega, lsF_t ‹_›]] at k0
      exact k0
    · refine Or.inl ⟨show inr (s + 1) from by constructor <;> omega, ?_⟩
      have hs28 : s < 28 := by obtain ⟨t, t0, t1, t2⟩ := ht; have : ¬ s = t := fun h => ‹¬ f 86 s - 1 = a› (by rw [h]; exact t2); omega
      refine hB (29 - (s + 1) : Int).toNat ?_ ⟨rfl, (s + 1), rfl, rfl, rfl, rfl, ?_, ?_, ?_, ?_⟩
      · omega
      · omega
      · rw [hl, show (29 - s).toNat = (29 - (s + 1)).toNat + 1 by omega, lsF_s ‹_›]
      · obtain ⟨t, t0, t1, t2⟩ := ht
        have : ¬ s = t := fun h => ‹¬ f 86 s - 1 = a› (by rw [h]; exact t2)
        exact ⟨t, by omega, t1, t2⟩
      · omega
  · refine hF (29 - 0 : Int).toNat ?_ ⟨rfl, 0, rfl, rfl, rfl, rfl, ?_, ?_, ?_, ?_⟩
    · omega
    · omega
    · rfl
    · exact hx
    · omega
set_option maxRecDepth 100000 in
set_option maxHeartbeats 4000000 in
theorem c_notes {sg pl got : Int} (hd : 2 ≤ d) (hs0 : 0 ≤ sg ∧ sg < 29) (hr : 0 ≤ (f 80 37) ∧ (f 80 37) ≤ 200) (ho : (oB f)) (k0 : ((f 80 37) = 200) → Q none f g) (k1 : (¬ (f 80 37) = 200) → Q none (wv (wv (wv (wv (wv (wv f 103 (5 * (f 80 37)) sg) 103 (5 * (f 80 37) + 1) (f (fv 79 12) 0)) 103 (5 * (f 80 37) + 2) pl) 103 (5 * (f 80 37) + 3) ((f 86 sg) - 1)) 103 (5 * (f 80 37) + 4) got) 80 37 ((f 80 37) + 1)) g) : wq d 52 [iR 79, iI sg, iI pl, iI got] f g Q := by
  obtain ⟨d, rfl⟩ : ∃ e, d = e + 1 := ⟨d - 1, by omega⟩
  refine i_meth0 rfl rfl (fun O J hO => ?_)
  refine ⟨show 0 ≤ (37 : Int) ∧ 37 < 40 from by decide, ?_⟩
  refine ⟨fun (hh_1 : f 80 37 = 200) => ?_, fun (hh_1 : ¬ f 80 37 = 200) => ?_⟩
  · exact k0 (by assumption)
  · refine Or.inl ⟨show inr (5 * (f 80 37)) from by constructor <;> omega, ?_⟩
    refine ⟨show 0 ≤ ((5 * (f 80 37)) : Int) ∧ (5 * (f 80 37)) < 1000 from by omega, ?_⟩
    refine Or.inl ⟨show inr (5 * (f 80 37)) from by constructor <;> omega, ?_⟩
    refine Or.inl ⟨show inr ((5 * (f 80 37)) + 1) from by constructor <;> omega, ?_⟩
    refine ⟨show 0 ≤ (((5 * (f 80 37)) + 1) : Int) ∧ ((5 * (f 80 37)) + 1) < 1000 from by omega, ?_⟩
    refine Or.inl ⟨show inr (5 * (f 80 37)) from by constructor <;> omega, ?_⟩
    refine Or.inl ⟨show inr ((5 * (f 80 37)) + 2) from by constructor <;> omega, ?_⟩
    refine ⟨show 0 ≤ (((5 * (f 80 37)) + 2) : Int) ∧ ((5 * (f 80 37)) + 2) < 1000 from by omega, ?_⟩
    refine Or.inl ⟨show inr (5 * (f 80 37)) from by constructor <;> omega, ?_⟩
    refine Or.inl ⟨show inr ((5 * (f 80 37)) + 3) from by constructor <;> omega, ?_⟩
    refine hO (c_ownerOf (by omega) (show 0 ≤ sg from by omega) (show sg < 29 from by omega) (show (oB f) from ho) ?_)
    refine ⟨show 0 ≤ (((5 * (f 80 37)) + 3) : Int) ∧ ((5 * (f 80 37)) + 3) < 1000 from by omega, ?_⟩
    refine Or.inl ⟨show inr (5 * (f 80 37)) from by constructor <;> omega, ?_⟩
    refine Or.inl ⟨show inr ((5 * (f 80 37)) + 4) from by constructor <;> omega, ?_⟩
    refine ⟨show 0 ≤ (((5 * (f 80 37)) + 4) : Int) ∧ ((5 * (f 80 37)) + 4) < 1000 from by omega, ?_⟩
    refine Or.inl ⟨show inr ((f 80 37) + 1) from by constructor <;> omega, ?_⟩
    refine ⟨show 0 ≤ (37 : Int) ∧ 37 < 40 from by decide, ?_⟩
    exact k1 (by assumption)
set_option maxRecDepth 100000 in
set_option maxHeartbeats 4000000 in
theorem c_prints {i : Int} (hd : 5 ≤ d) (hi0 : 0 ≤ i) (hi1 : i < (f (fv 79 15) 0)) (hs : (f 89 i) < 29) (hr : (rwB f)) (ho : (oB f)) (hl : (lB f)) (hday : 0 ≤ (f (fv 79 12) 0) ∧ (f (fv 79 12) 0) ≤ 9999) (hpu : (∀ a, 0 ≤ a → a < 8 → 0 ≤ (f 80 a) ∧ (f 80 a) ≤ 99999) ∧ 0 ≤ (f 80 37) ∧ (f 80 37) ≤ 200) (k0 : ((aR f) (f 89 i) = false) → Q (some (iI 0)) (wv f 80 38 (w32 ((f 80 38) + 1))) g) (k1 : ∀ f1 : iF, ((aR f) (f 89 i) = true) → (f1 80 = bkN (oR f) (f 80) (f 89 i) (pyI (aR f) (oR f) (f (fv 79 12) 0) (lwR f) (f 89) (f (fv 79 15) 0) i)) → (f1 103 = bkR (oR f) (f 80) (f 103) (f (fv 79 12) 0) (f 89 i) i (pyI (aR f) (oR f) (f (fv 79 12) 0) (lwR f) (f 89) (f (fv 79 15) 0) i)) → Q (some (iI 1)) (mx [80, 100, 101, 103] f f1) g) : wq d 53 [iR 79, iI i] f g Q := by
  obtain ⟨d, rfl⟩ : ∃ e, d = e + 1 := ⟨d - 1, by omega⟩
  refine i_meth [(50, 5), (71, 5)] (fun n j lv st f' g' => (j = 50 ∧ ∃ (a2 : Int) (was : Int) (is : Int) (x : Int) (f1 : iF), lv = [some (iR 79), some (iI i), some (iI a2), some (iI was), some (iI is)] ∧ st = [(iI x), (iI (0 + a2)), (iR 80)] ∧ f' = (mx [80, 100, 101] f f1) ∧ g = g' ∧ (aR f (f 89 i) = true) ∧ (a2 = (f 86 (f 89 i) - 1)) ∧ (was = f 80 a2) ∧ (is = was + (pyI (aR f) (oR f) (f (fv 79 12) 0) (lwR f) (f 89) (f (fv 79 15) 0) i)) ∧ (x = pur was (pyI (aR f) (oR f) (f (fv 79 12) 0) (lwR f) (f 89) (f (fv 79 15) 0) i)) ∧ (f1 80 = f 80) ∧ (n : Int) = 3) ∨ (j = 71 ∧ ∃ (a2 : Int) (was : Int) (is : Int) (f1 : iF), lv = [some (iR 79), some (iI i), some (iI a2), some (iI was), some (iI is)] ∧ st = [] ∧ f' = (mx [80, 100, 101] f f1) ∧ g = g' ∧ (aR f (f 89 i) = true) ∧ (a2 = (f 86 (f 89 i) - 1)) ∧ (was = f 80 a2) ∧ (is = was + (pyI (aR f) (oR f) (f (fv 79 12) 0) (lwR f) (f 89) (f (fv 79 15) 0) i)) ∧ (f1 80 = up (up (f 80) (f 86 (f 89 i) - 1) (pur (f 80 (f 86 (f 89 i) - 1)) (pyI (aR f) (oR f) (f (fv 79 12) 0) (lwR f) (f 89) (f (fv 79 15) 0) i))) (8 + f 89 i) (w32 (f 80 (8 + f 89 i) + 1))) ∧ (n : Int) = 2)) 5 (by omega) rfl rfl (fun n j lv st f' g' hn hI O J hO hF hB => ?_) (fun hvs hin O J hO hF => ?_)
  · rcases hI with hI | hI
    · obtain ⟨rfl, a2, was, is, x, f1, rfl, rfl, rfl, rfl, hab, ha, hw, hpy, hx, h80, hm⟩ := hI
      have hr1 := hr.1
      have hri := hr.2 i hi0 hi1
      have hat := aR_t.mp hab
      have hob := ho (f 89 i) (by omega) (by omega)
      have hpa := hpu.1 a2 (by omega) (by omega)
      have hpyr := pyI_r (ab := aR f) (ow := oR f) (day := f (fv 79 12) 0) (w := lwR f) (row := f 89) (n := (f (fv 79 15) 0)) (i := i)
      refine ⟨show 0 ≤ ((0 + a2) : Int) ∧ (0 + a2) < 40 from by omega, ?_⟩
      refine ⟨show 0 ≤ (i : Int) ∧ i < 60 from by omega, ?_⟩
      refine Or.inl ⟨show inr (8 + (f 89 i)) from by constructor <;> omega, ?_⟩
      refine ⟨show 0 ≤ (i : Int) ∧ i < 60 from by omega, ?_⟩
      refine Or.inl ⟨show inr (8 + (f 89 i)) from by constructor <;> omega, ?_⟩
      refine ⟨show 0 ≤ ((8 + (f 89 i)) : Int) ∧ (8 + (f 89 i)) < 40 from by omega, ?_⟩
      refine Or.inr ?_
      refine ⟨show 0 ≤ ((8 + (f 89 i)) : Int) ∧ (8 + (f 89 i)) < 40 from by omega, ?_⟩
      refine hF (2 : Int).toNat ?_ (Or.inr (⟨rfl, a2, was, is, (wv (wv f1 80 (0 + a2) x) 80 (8 + (f 89 i)) (w32 (((wv (mx [80, 100, 101] f f1) 80 (0 + a2) x) 80 (8 + (f 89 i))) + 1))), rfl, rfl, (mx_wv rfl (mx_wv rfl rfl)), rfl, ?_, ?_, ?_, ?_, ?_, ?_⟩))
      · omega
      · first | assumption | exact hab | rfl
      · first | assumption | exact ha | rfl
      · first | assumption | exact hw | rfl
      · first | assumption | exact hpy | rfl
      · rw [wv_up, wv_up, show wv (mx [80, 100, 101] f f1) 80 (0 + a2) x 80 (8 + f 89 i) = f 80 (8 + f 89 i) from (wv_k (by omega)).trans (congrFun h80 _), h80, Int.zero_add, hx, hw, ha]
      · omega
    · obtain ⟨rfl, a2, was, is, f1, rfl, rfl, rfl, rfl, hab, ha, hw, hpy, h80, hm⟩ := hI
      have hr1 := hr.1
      have hri := hr.2 i hi0 hi1
      have hat := aR_t.mp hab
      have hob := ho (f 89 i) (by omega) (by omega)
      have hpa := hpu.1 a2 (by omega) (by omega)
      have hpyr := pyI_r (ab := aR f) (ow := oR f) (day := f (fv 79 12) 0) (w := lwR f) (row := f 89) (n := (f (fv 79 15) 0)) (i := i)
      have h37 : f1 80 37 = f 80 37 := by rw [h80, up_n (by omega), up_n (by omega)]
      have hpa2 : f1 80 a2 = pur (f 80 a2) (pyI (aR f) (oR f) (f (fv 79 12) 0) (lwR f) (f 89) (f (fv 79 15) 0) i) := by rw [h80, ha, up_n (by omega), up_s]
      have hpur : 0 ≤ pur (f 80 a2) (pyI (aR f) (oR f) (f (fv 79 12) 0) (lwR f) (f 89) (f (fv 79 15) 0) i) ∧ pur (f 80 a2) (pyI (aR f) (oR f) (f (fv 79 12) 0) (lwR f) (f 89) (f (fv 79 15) 0) i) ≤ 99999 := by unfold pur; split <;> omega
      refine ⟨show 0 ≤ (i : Int) ∧ i < 60 from by omega, ?_⟩
      refine Or.inl ⟨show inr (0 + a2) from by constructor <;> omega, ?_⟩
      refine ⟨show 0 ≤ ((0 + a2) : Int) ∧ (0 + a2) < 40 from by omega, ?_⟩
      refine Or.inl ⟨show inr ((f1 80 (0 + a2)) - was) from by constructor <;> (rw [show 0 + a2 = a2 by omega, hpa2]; omega), ?_⟩
      refine hO (c_notes (by omega) (show 0 ≤ (f 89 i) ∧ (f 89 i) < 29 from by omega) (show 0 ≤ (f1 80 37) ∧ (f1 80 37) ≤ 200 from by rw [h37]; exact hpu.2) (show (oB f) from ho) (fun (hh_1 : (f1 80 37) = 200) => ?_) (fun (hh_2 : ¬ (f1 80 37) = 200) => ?_))
      · refine ⟨show (1 : Int) = 0 ∨ 1 = 1 from by decide, ?_⟩
        have hp37 : f1 80 37 = 200 := by assumption
        have hk := k1 (mx [80, 100, 101] f f1) hab (by
          show f1 80 = _
          unfold bkN
          rw [h80]
          rw [h37] at hp37
          rw [if_pos hp37]
          funext j
          by_cases e : j = 37
          · rw [e, up_s, up_n (by omega), up_n (by omega)]; exact hp37
          · rw [up_n e]; rfl) (by
          show f 103 = _
          unfold bkR
          rw [if_pos (by rw [← h37]; exact hp37)])
        rw [show mx [80, 100, 101, 103] f (mx [80, 100, 101] f f1) = (mx [80, 100, 101] f f1) from ((mx_mx rfl mx_rf)).symm] at hk
        exact hk
      · refine ⟨show (1 : Int) = 0 ∨ 1 = 1 from by decide, ?_⟩
        have hp37 : ¬ f1 80 37 = 200 := by assumption
        have hk := k1 (wv (wv (wv (wv (wv (wv (mx [80, 100, 101] f f1) 103 (5 * (f1 80 37)) (f 89 i)) 103 (5 * (f1 80 37) + 1) (f (fv 79 12) 0)) 103 (5 * (f1 80 37) + 2) i) 103 (5 * (f1 80 37) + 3) ((f 86 (f 89 i)) - 1)) 103 (5 * (f1 80 37) + 4) ((f1 80 (0 + a2)) - was)) 80 37 ((f1 80 37) + 1)) hab (by
          rw [wv_up]
          show up (f1 80) 37 (f1 80 37 + 1) = _
          unfold bkN
          rw [h37, h80]
          rw [h37] at hp37
          rw [if_neg hp37]
          rfl) (by
          show wv _ 103 _ _ 103 = _
          rw [wv_up, wv_up, wv_up, wv_up, wv_up]
          unfold bkR
          rw [h37] at hp37
          rw [if_neg hp37, show (0 : Int) + a2 = a2 by omega, hpa2, h37, ha, hw, ha]
          rfl)
        rw [show mx [80, 100, 101, 103] f (wv (wv (wv (wv (wv (wv (mx [80, 100, 101] f f1) 103 (5 * (f1 80 37)) (f 89 i)) 103 (5 * (f1 80 37) + 1) (f (fv 79 12) 0)) 103 (5 * (f1 80 37) + 2) i) 103 (5 * (f1 80 37) + 3) ((f 86 (f 89 i)) - 1)) 103 (5 * (f1 80 37) + 4) ((f1 80 (0 + a2)) - was)) 80 37 ((f1 80 37) + 1)) = (wv (wv (wv (wv (wv (wv (mx [80, 100, 101] f f1) 103 (5 * (f1 80 37)) (f 89 i)) 103 (5 * (f1 80 37) + 1) (f (fv 79 12) 0)) 103 (5 * (f1 80 37) + 2) i) 103 (5 * (f1 80 37) + 3) ((f 86 (f 89 i)) - 1)) 103 (5 * (f1 80 37) + 4) ((f1 80 (0 + a2)) - was)) 80 37 ((f1 80 37) + 1)) from ((mx_wv rfl (mx_wv rfl (mx_wv rfl (mx_wv rfl (mx_wv rfl (mx_wv rfl (mx_mx rfl mx_rf)))))))).symm] at hk
        exact hk
  · have hr1 := hr.1
    have hri := hr.2 i hi0 hi1
    refine ⟨show 0 ≤ (i : Int) ∧ i < 60 from by omega, ?_⟩
    refine hO (c_canP (by omega) (show 0 ≤ (f 89 i) from by omega) (show (f 89 i) < 29 from by omega) (show (oB f) from ho) (fun (hh_3 : (aR f) (f 89 i) = true) => ?_) (fun (hh_4 : (aR f) (f 89 i) = false) => ?_))
    · have hab := hh_3
      have hat := aR_t.mp hab
      have hob := ho (f 89 i) (by omega) (by omega)
      have hpa := hpu.1 (0 + (f 86 (f 89 i) - 1)) (by omega) (by omega)
      refine ⟨fun h => absurd (show (1 : Int) = 0 from h) (by decide), fun _ => ?_⟩
      refine ⟨show 0 ≤ (i : Int) ∧ i < 60 from by omega, ?_⟩
      refine hO (c_ownerOf (by omega) (show 0 ≤ (f 89 i) from by omega) (show (f 89 i) < 29 from by omega) (show (oB f) from ho) ?_)
      refine Or.inl ⟨show inr (0 + ((f 86 (f 89 i)) - 1)) from by constructor <;> omega, ?_⟩
      refine ⟨show 0 ≤ ((0 + ((f 86 (f 89 i)) - 1)) : Int) ∧ (0 + ((f 86 (f 89 i)) - 1)) < 40 from by omega, ?_⟩
      refine hO (c_paysAt (by omega) (show 0 ≤ i from by omega) (show i < (f (fv 79 15) 0) from by omega) (show (f 89 i) < 29 from by omega) (show (rwB f) from hr) (show (oB f) from ho) (show (lB f) from hl) (show 0 ≤ (f (fv 79 12) 0) ∧ (f (fv 79 12) 0) ≤ 9999 from hday) (fun f1_5 => ?_))
      have hpyr := pyI_r (ab := aR f) (ow := oR f) (day := f (fv 79 12) 0) (w := lwR f) (row := f 89) (n := (f (fv 79 15) 0)) (i := i)
      refine Or.inl ⟨show inr ((f 80 (0 + ((f 86 (f 89 i)) - 1))) + (pyI (aR f) (oR f) (f (fv 79 12) 0) (lwR f) (f 89) (f (fv 79 15) 0) i)) from by constructor <;> omega, ?_⟩
      refine Or.inl ⟨show inr (0 + ((f 86 (f 89 i)) - 1)) from by constructor <;> omega, ?_⟩
      refine ⟨fun (hh_6 : 99999 < ((f 80 (0 + ((f 86 (f 89 i)) - 1))) + (pyI (aR f) (oR f) (f (fv 79 12) 0) (lwR f) (f 89) (f (fv 79 15) 0) i))) => ?_, fun (hh_6 : ¬ 99999 < ((f 80 (0 + ((f 86 (f 89 i)) - 1))) + (pyI (aR f) (oR f) (f (fv 79 12) 0) (lwR f) (f 89) (f (fv 79 15) 0) i))) => ?_⟩
      · refine hF (3 : Int).toNat ?_ (Or.inl ⟨rfl, (f 86 (f 89 i)) - 1, f 80 (0 + ((f 86 (f 89 i)) - 1)), ((f 80 (0 + ((f 86 (f 89 i)) - 1))) + (pyI (aR f) (oR f) (f (fv 79 12) 0) (lwR f) (f 89) (f (fv 79 15) 0) i)), 99999, (mx [100, 101] f f1_5), rfl, rfl, (mx_mx rfl mx_rf), rfl, ?_, ?_, ?_, ?_, ?_, ?_, ?_⟩)
        · omega
        · first | assumption | exact hab | rfl
        · first | assumption | exact ha | rfl
        · show f 80 (0 + _) = _; rw [Int.zero_add]
        · first | assumption | exact hpy | rfl
        · unfold pur
          first | rw [if_pos (by omega)] | rw [if_neg (by omega)]
        · rfl
        · omega
      · refine hF (3 : Int).toNat ?_ (Or.inl ⟨rfl, (f 86 (f 89 i)) - 1, f 80 (0 + ((f 86 (f 89 i)) - 1)), ((f 80 (0 + ((f 86 (f 89 i)) - 1))) + (pyI (aR f) (oR f) (f (fv 79 12) 0) (lwR f) (f 89) (f (fv 79 15) 0) i)), ((f 80 (0 + ((f 86 (f 89 i)) - 1))) + (pyI (aR f) (oR f) (f (fv 79 12) 0) (lwR f) (f 89) (f (fv 79 15) 0) i)), (mx [100, 101] f f1_5), rfl, rfl, (mx_mx rfl mx_rf), rfl, ?_, ?_, ?_, ?_, ?_, ?_, ?_⟩)
        · omega
        · first | assumption | exact hab | rfl
        · first | assumption | exact ha | rfl
        · show f 80 (0 + _) = _; rw [Int.zero_add]
        · first | assumption | exact hpy | rfl
        · unfold pur
          first | rw [if_pos (by omega)] | rw [if_neg (by omega)]
        · rfl
        · omega
    · refine ⟨fun _ => ?_, fun h => absurd (show (0 : Int) = 0 from by decide) h⟩
      refine ⟨show 0 ≤ (38 : Int) ∧ 38 < 40 from by decide, ?_⟩
      refine Or.inr ?_
      refine ⟨show 0 ≤ (38 : Int) ∧ 38 < 40 from by decide, ?_⟩
      refine ⟨show (0 : Int) = 0 ∨ 0 = 1 from by decide, ?_⟩
      exact k0 (by assumption)
set_option maxRecDepth 100000 in
set_option maxHeartbeats 4000000 in
theorem c_print (hd : 6 ≤ d) (hg : (pgB f)) (ho : (oB f)) (hl : (lB f)) (hday : 0 ≤ (f (fv 79 12) 0) ∧ (f (fv 79 12) 0) ≤ 9999) (hj : 0 ≤ (f (fv 79 11) 0) ∧ (f (fv 79 11) 0) ≤ 1000) (hu : 0 ≤ (f (fv 79 3) 0) ∧ (f (fv 79 3) 0) ≤ 6) (hpu : (∀ a, 0 ≤ a → a < 8 → 0 ≤ (f 80 a) ∧ (f 80 a) ≤ 99999) ∧ 0 ≤ (f 80 37) ∧ (f 80 37) ≤ 200) (k0 : ∀ f1 : iF, (((f (fv 79 3) 0) = 6 ∧ f1 (fv 79 3) 0 = 6 ∧ (∀ j, 0 ≤ j → j < 200 → f1 81 j = (f 81 (j + 40))) ∧ ∀ j, 0 ≤ j → j < 40 → f1 81 (200 + j) = (f 80 j)) ∨ (¬ (f (fv 79 3) 0) = 6 ∧ f1 (fv 79 3) 0 = (f (fv 79 3) 0) + 1 ∧ (∀ j, 0 ≤ j → j < 40 * (f (fv 79 3) 0) → f1 81 j = (f 81 j)) ∧ ∀ j, 0 ≤ j → j < 40 → f1 81 (40 * (f (fv 79 3) 0) + j) = (f 80 j))) → (f1 80 = (prI (aR f) (oR f) (f (fv 79 12) 0) (lwR f) (f 88) (f (fv 79 13) 0) (f (fv 79 11) 0) ((f 80), (f 103), -1, 0) (f (fv 79 13) 0)).1) → (f1 103 = (prI (aR f) (oR f) (f (fv 79 12) 0) (lwR f) (f 88) (f (fv 79 13) 0) (f (fv 79 11) 0) ((f 80), (f 103), -1, 0) (f (fv 79 13) 0)).2.1) → Q (some (iI ((prI (aR f) (oR f) (f (fv 79 12) 0) (lwR f) (f 88) (f (fv 79 13) 0) (f (fv 79 11) 0) ((f 80), (f 103), -1, 0) (f (fv 79 13) 0)).2.2.2))) (mx [80, 81, 89, 100, 101, 103, fv 79 0, fv 79 3, fv 79 15] f f1) g) : wq d 54 [iR 79] f g Q := by
  obtain ⟨d, rfl⟩ : ∃ e, d = e + 1 := ⟨d - 1, by omega⟩
  refine i_meth [(13, 4), (45, 4)] (fun n j lv st f' g' => (j = 13 ∧ ∃ (la : Int) (cn : Int) (i : Int) (f1 : iF), lv = [some (iR 79), some (iI la), some (iI cn), some (iI i)] ∧ st = [] ∧ f' = (mx [80, 81, 89, 100, 101, 103, fv 79 0, fv 79 3, fv 79 15] f f1) ∧ g = g' ∧ (((f (fv 79 3) 0) = 6 ∧ f1 (fv 79 3) 0 = 6 ∧ (∀ j, 0 ≤ j → j < 200 → f1 81 j = (f 81 (j + 40))) ∧ ∀ j, 0 ≤ j → j < 40 → f1 81 (200 + j) = (f 80 j)) ∨ (¬ (f (fv 79 3) 0) = 6 ∧ f1 (fv 79 3) 0 = (f (fv 79 3) 0) + 1 ∧ (∀ j, 0 ≤ j → j < 40 * (f (fv 79 3) 0) → f1 81 j = (f 81 j)) ∧ ∀ j, 0 ≤ j → j < 40 → f1 81 (40 * (f (fv 79 3) 0) + j) = (f 80 j))) ∧ (0 ≤ i ∧ i ≤ (f (fv 79 13) 0) ∧ 0 ≤ cn ∧ cn ≤ i) ∧ (f1 (fv 79 15) 0 = (f (fv 79 13) 0)) ∧ (cn = (prI (aR f) (oR f) (f (fv 79 12) 0) (lwR f) (f 88) (f (fv 79 13) 0) (f (fv 79 11) 0) (f 80, f 103, -1, 0) i).2.2.2) ∧ ((la = -1 ∧ (prI (aR f) (oR f) (f (fv 79 12) 0) (lwR f) (f 88) (f (fv 79 13) 0) (f (fv 79 11) 0) (f 80, f 103, -1, 0) i).2.2.1 = -1) ∨ (0 ≤ la ∧ la < 29 ∧ 0 ≤ f 86 la - 1 ∧ (prI (aR f) (oR f) (f (fv 79 12) 0) (lwR f) (f 88) (f (fv 79 13) 0) (f (fv 79 11) 0) (f 80, f 103, -1, 0) i).2.2.1 = f 86 la - 1)) ∧ ((∀ a, 0 ≤ a → a < 8 → 0 ≤ f1 80 a ∧ f1 80 a ≤ 99999) ∧ 0 ≤ f1 80 37 ∧ f1 80 37 ≤ 200) ∧ (f1 80 = (prI (aR f) (oR f) (f (fv 79 12) 0) (lwR f) (f 88) (f (fv 79 13) 0) (f (fv 79 11) 0) (f 80, f 103, -1, 0) i).1) ∧ (f1 103 = (prI (aR f) (oR f) (f (fv 79 12) 0) (lwR f) (f 88) (f (fv 79 13) 0) (f (fv 79 11) 0) (f 80, f 103, -1, 0) i).2.1) ∧ (∀ k, 0 ≤ k → k < (f (fv 79 13) 0) → f1 89 k = f 88 k) ∧ (n : Int) = 2 * ((f (fv 79 13) 0) - i) + 1) ∨ (j = 45 ∧ ∃ (la : Int) (cn : Int) (i : Int) (f1 : iF), lv = [some (iR 79), some (iI la), some (iI cn), some (iI i)] ∧ st = [] ∧ f' = (mx [80, 81, 89, 100, 101, 103, fv 79 0, fv 79 3, fv 79 15] f f1) ∧ g = g' ∧ (((f (fv 79 3) 0) = 6 ∧ f1 (fv 79 3) 0 = 6 ∧ (∀ j, 0 ≤ j → j < 200 → f1 81 j = (f 81 (j + 40))) ∧ ∀ j, 0 ≤ j → j < 40 → f1 81 (200 + j) = (f 80 j)) ∨ (¬ (f (fv 79 3) 0) = 6 ∧ f1 (fv 79 3) 0 = (f (fv 79 3) 0) + 1 ∧ (∀ j, 0 ≤ j → j < 40 * (f (fv 79 3) 0) → f1 81 j = (f 81 j)) ∧ ∀ j, 0 ≤ j → j < 40 → f1 81 (40 * (f (fv 79 3) 0) + j) = (f 80 j))) ∧ (0 ≤ i ∧ i ≤ (f (fv 79 13) 0) ∧ 0 ≤ cn ∧ cn ≤ i) ∧ (f1 (fv 79 15) 0 = (f (fv 79 13) 0)) ∧ (cn = (prI (aR f) (oR f) (f (fv 79 12) 0) (lwR f) (f 88) (f (fv 79 13) 0) (f (fv 79 11) 0) (f 80, f 103, -1, 0) i).2.2.2) ∧ ((la = -1 ∧ (prI (aR f) (oR f) (f (fv 79 12) 0) (lwR f) (f 88) (f (fv 79 13) 0) (f (fv 79 11) 0) (f 80, f 103, -1, 0) i).2.2.1 = -1) ∨ (0 ≤ la ∧ la < 29 ∧ 0 ≤ f 86 la - 1 ∧ (prI (aR f) (oR f) (f (fv 79 12) 0) (lwR f) (f 88) (f (fv 79 13) 0) (f (fv 79 11) 0) (f 80, f 103, -1, 0) i).2.2.1 = f 86 la - 1)) ∧ ((∀ a, 0 ≤ a → a < 8 → 0 ≤ f1 80 a ∧ f1 80 a ≤ 99999) ∧ 0 ≤ f1 80 37 ∧ f1 80 37 ≤ 200) ∧ (i < (f (fv 79 13) 0) ∧ ¬ f 88 i = 29) ∧ (f1 80 = prD (f (fv 79 11) 0) (prI (aR f) (oR f) (f (fv 79 12) 0) (lwR f) (f 88) (f (fv 79 13) 0) (f (fv 79 11) 0) (f 80, f 103, -1, 0) i).1) ∧ (f1 103 = (prI (aR f) (oR f) (f (fv 79 12) 0) (lwR f) (f 88) (f (fv 79 13) 0) (f (fv 79 11) 0) (f 80, f 103, -1, 0) i).2.1) ∧ (f1 89 i = prC (oR f) (f (fv 79 11) 0) (f 88 i) (prI (aR f) (oR f) (f (fv 79 12) 0) (lwR f) (f 88) (f (fv 79 13) 0) (f (fv 79 11) 0) (f 80, f 103, -1, 0) i).1 (prI (aR f) (oR f) (f (fv 79 12) 0) (lwR f) (f 88) (f (fv 79 13) 0) (f (fv 79 11) 0) (f 80, f 103, -1, 0) i).2.2.1) ∧ (0 ≤ f1 89 i ∧ f1 89 i < 29) ∧ (∀ k, 0 ≤ k → k < (f (fv 79 13) 0) → ¬ k = i → f1 89 k = f 88 k) ∧ (n : Int) = 2 * ((f (fv 79 13) 0) - i))) 130 (by omega) rfl rfl (fun n j lv st f' g' hn hI O J hO hF hB => ?_) (fun hvs hin O J hO hF => ?_)
  · rcases hI with hI | hI
    · obtain ⟨rfl, la, cn, i, f1, rfl, rfl, rfl, rfl, hk, hi, hn, hc, hla, hb, h80, h103, hrow, hm⟩ := hI
      have hg1 := hg.1
      refine ⟨fun (hh_1 : i < f (fv 79 13) 0) => ?_, fun (hh_1 : ¬ i < f (fv 79 13) 0) => ?_⟩
      · have hgi := hg.2 i (by omega) (by omega)
        refine ⟨show 0 ≤ (i : Int) ∧ i < 60 from by omega, ?_⟩
        refine ⟨fun (hh_2 : f 88 i = 29) => ?_, fun (hh_2 : ¬ f 88 i = 29) => ?_⟩
        · have hstep := (prI_s (ab := aR f) (ow := oR f) (day := f (fv 79 12) 0) (w := lwR f) (pg := f 88) (n := (f (fv 79 13) 0)) (jl := (f (fv 79 11) 0)) (p := (f 80, f 103, -1, 0)) (i := i) (by omega)).trans (prS_b hh_2)
          refine ⟨show inr (i + 1) from by constructor <;> omega, ?_⟩
          refine hB (2 * ((f (fv 79 13) 0) - (i + 1)) + 1 : Int).toNat ?_ (Or.inl ⟨rfl, la, cn, (i + 1), f1, rfl, rfl, rfl, rfl, ?_, ?_, ?_, ?_, ?_, ?_, ?_, ?_, ?_, ?_⟩)
          · omega
          · exact hk
          · omega
          · exact hn
          · rw [hstep]; exact hc
          · rw [hstep]; exact hla
          · exact hb
          · rw [hstep]; exact h80
          · rw [hstep]; exact h103
          · exact hrow
          · omega
        · refine ⟨fun (hh_3 : 0 < f (fv 79 11) 0) => ?_, fun (hh_3 : ¬ 0 < f (fv 79 11) 0) => ?_⟩
          · refine hO (c_draw (by omega) (show 1000 = 1000 from rfl) ?_)
            refine ⟨fun (hh_4 : drw (nxt (f1 80 39)) 1000 < f (fv 79 11) 0) => ?_, fun (hh_4 : ¬ drw (nxt (f1 80 39)) 1000 < f (fv 79 11) 0) => ?_⟩
            · refine ⟨fun (hh_5 : la = (-1)) => ?_, fun (hh_5 : ¬ la = (-1)) => ?_⟩
              · refine hF (2 * ((f (fv 79 13) 0) - i) : Int).toNat ?_ (Or.inr (⟨rfl, la, cn, i, (wv f1 80 39 (nxt (f1 80 39))), rfl, rfl, (mx_wv rfl rfl), rfl, ?_, ?_, ?_, ?_, ?_, ?_, ?_, ?_, ?_, ?_, ?_, ?_, ?_⟩))
                · omega
                · exact hk
                · omega
                · exact hn
                · exact hc
                · exact hla
                · exact ⟨fun a h0 h1 => by show 0 ≤ wv f1 80 39 (nxt (f1 80 39)) 80 a ∧ wv f1 80 39 (nxt (f1 80 39)) 80 a ≤ 99999; rw [wv_k (by omega)]; exact hb.1 a h0 h1, by show 0 ≤ wv f1 80 39 (nxt (f1 80 39)) 80 37 ∧ wv f1 80 39 (nxt (f1 80 39)) 80 37 ≤ 200; rw [wv_k (by omega)]; exact hb.2⟩
                · omega
                · show wv f1 80 39 _ 80 = _
                  rw [wv_up, h80]
                  unfold prD
                  rw [if_pos (by omega)]
                · exact h103
                · show f1 89 i = _
                  rw [hrow i (by omega) (by omega)]
                  unfold prC
                  rw [if_neg (fun h => by first | omega | exact absurd (by rw [← h80] at h; exact h.2.1) (by assumption) | (rcases hla with q | q <;> omega))]
                · show 0 ≤ f1 89 i ∧ f1 89 i < 29
                  rw [hrow i (by omega) (by omega)]; omega
                · exact fun k h0 h1 _ => hrow k h0 h1
                · omega
              · refine hO (c_ownerOf (by omega) (show 0 ≤ la from by rcases hla with q | q <;> omega) (show la < 29 from by rcases hla with q | q <;> omega) (show (oB f) from ho) ?_)
                refine hO (c_least (by omega) (show ∃ t, 0 ≤ t ∧ t < 29 ∧ (f 86 t) - 1 = ((f 86 la) - 1) from by rcases hla with q | q; omega; exact ⟨la, q.1, q.2.1, rfl⟩) (show (oB f) from ho) ?_)
                have hla2 : 0 ≤ la ∧ la < 29 ∧ 0 ≤ f 86 la - 1 ∧ (prI (aR f) (oR f) (f (fv 79 12) 0) (lwR f) (f 88) (f (fv 79 13) 0) (f (fv 79 11) 0) (f 80, f 103, -1, 0) i).2.2.1 = f 86 la - 1 := by rcases hla with q | q; omega; exact q
                have hl2 := hla2.2.2.2
                have hlsr := lsI_r (ow := oR f) (a := f 86 la - 1) hla2.1 hla2.2.1 rfl
                refine ⟨show 0 ≤ (i : Int) ∧ i < 60 from by omega, ?_⟩
                refine hF (2 * ((f (fv 79 13) 0) - i) : Int).toNat ?_ (Or.inr (⟨rfl, la, cn, i, (wv (wv f1 80 39 (nxt (f1 80 39))) 89 i (lsI (oR f) ((f 86 la) - 1))), rfl, rfl, (mx_wv rfl (mx_wv rfl rfl)), rfl, ?_, ?_, ?_, ?_, ?_, ?_, ?_, ?_, ?_, ?_, ?_, ?_, ?_⟩))
                · omega
                · exact hk
                · omega
                · exact hn
                · exact hc
                · exact hla
                · exact ⟨fun a h0 h1 => by show 0 ≤ wv f1 80 39 (nxt (f1 80 39)) 80 a ∧ wv f1 80 39 (nxt (f1 80 39)) 80 a ≤ 99999; rw [wv_k (by omega)]; exact hb.1 a h0 h1, by show 0 ≤ wv f1 80 39 (nxt (f1 80 39)) 80 37 ∧ wv f1 80 39 (nxt (f1 80 39)) 80 37 ≤ 200; rw [wv_k (by omega)]; exact hb.2⟩
                · omega
                · show wv f1 80 39 _ 80 = _
                  rw [wv_up, h80]
                  unfold prD
                  rw [if_pos (by omega)]
                · exact h103
                · rw [wv_s]
                  unfold prC
                  rw [if_pos ⟨by omega, by rw [← h80]; assumption, by omega⟩, hl2]
                · rw [wv_s]; exact ⟨hlsr.1, hlsr.2.1⟩
                · intro k h0 h1 h2
                  rw [wv_k h2]; exact hrow k h0 h1
                · omega
            · refine hF (2 * ((f (fv 79 13) 0) - i) : Int).toNat ?_ (Or.inr (⟨rfl, la, cn, i, (wv f1 80 39 (nxt (f1 80 39))), rfl, rfl, (mx_wv rfl rfl), rfl, ?_, ?_, ?_, ?_, ?_, ?_, ?_, ?_, ?_, ?_, ?_, ?_, ?_⟩))
              · omega
              · exact hk
              · omega
              · exact hn
              · exact hc
              · exact hla
              · exact ⟨fun a h0 h1 => by show 0 ≤ wv f1 80 39 (nxt (f1 80 39)) 80 a ∧ wv f1 80 39 (nxt (f1 80 39)) 80 a ≤ 99999; rw [wv_k (by omega)]; exact hb.1 a h0 h1, by show 0 ≤ wv f1 80 39 (nxt (f1 80 39)) 80 37 ∧ wv f1 80 39 (nxt (f1 80 39)) 80 37 ≤ 200; rw [wv_k (by omega)]; exact hb.2⟩
              · omega
              · show wv f1 80 39 _ 80 = _
                rw [wv_up, h80]
                unfold prD
                rw [if_pos (by omega)]
              · exact h103
              · show f1 89 i = _
                rw [hrow i (by omega) (by omega)]
                unfold prC
                rw [if_neg (fun h => by first | omega | exact absurd (by rw [← h80] at h; exact h.2.1) (by assumption) | (rcases hla with q | q <;> omega))]
              · show 0 ≤ f1 89 i ∧ f1 89 i < 29
                rw [hrow i (by omega) (by omega)]; omega
              · exact fun k h0 h1 _ => hrow k h0 h1
              · omega
          · refine hF (2 * ((f (fv 79 13) 0) - i) : Int).toNat ?_ (Or.inr (⟨rfl, la, cn, i, f1, rfl, rfl, rfl, rfl, ?_, ?_, ?_, ?_, ?_, ?_, ?_, ?_, ?_, ?_, ?_, ?_, ?_⟩))
            · omega
            · exact hk
            · omega
            · exact hn
            · exact hc
            · exact hla
            · exact hb
            · omega
            · unfold prD
              rw [if_neg (by omega)]; exact h80
            · exact h103
            · show f1 89 i = _
              rw [hrow i (by omega) (by omega)]
              unfold prC
              rw [if_neg (fun h => by first | omega | exact absurd (by rw [← h80] at h; exact h.2.1) (by assumption) | (rcases hla with q | q <;> omega))]
            · show 0 ≤ f1 89 i ∧ f1 89 i < 29
              rw [hrow i (by omega) (by omega)]; omega
            · exact fun k h0 h1 _ => hrow k h0 h1
            · omega
      · rw [show i = (f (fv 79 13) 0) by omega] at h80 h103 hc
        rw [← hc] at k0
        exact k0 f1 hk h80 h103
    · obtain ⟨rfl, la, cn, i, f1, rfl, rfl, rfl, rfl, hk, hi, hn, hc, hla, hb, hi2, h80, h103, hcs, hcr, hrow, hm⟩ := hI
      have hg1 := hg.1
      have hpye : pyI (aR f) (oR f) (f (fv 79 12) 0) (lwR f) (f1 89) (f1 (fv 79 15) 0) i = pyI (aR f) (oR f) (f (fv 79 12) 0) (lwR f) (up (f 88) i (f1 89 i)) (f (fv 79 13) 0) i := by rw [hn]; exact pyI_cg (fun k h0 h1 => by by_cases e : k = i; rw [e, up_s]; rw [up_n e]; exact hrow k h0 h1 e) hi.1 hi2.1
      refine hO (c_prints (by omega) (show 0 ≤ i from by omega) (show i < (f1 (fv 79 15) 0) from by omega) (show (f1 89 i) < 29 from hcr.2) (show (rwB (mx [80, 81, 89, 100, 101, 103, fv 79 0, fv 79 3, fv 79 15] f f1)) from (by exact ⟨by show 0 ≤ f1 (fv 79 15) 0 ∧ f1 (fv 79 15) 0 ≤ 60; omega, fun k h0 h1 => by show 0 ≤ f1 89 k ∧ f1 89 k ≤ 29; by_cases e : k = i; rw [e]; omega; rw [hrow k h0 (by rw [← hn]; exact h1) e]; exact hg.2 k h0 (by rw [← hn]; exact h1)⟩)) (show (oB f) from ho) (show (lB f) from hl) (show 0 ≤ (f (fv 79 12) 0) ∧ (f (fv 79 12) 0) ≤ 9999 from hday) (show (∀ a, 0 ≤ a → a < 8 → 0 ≤ (f1 80 a) ∧ (f1 80 a) ≤ 99999) ∧ 0 ≤ (f1 80 37) ∧ (f1 80 37) ≤ 200 from hb) (fun (hh_6 : (aR f) (f1 89 i) = false) => ?_) (fun f1_7 (hh_8 : (aR f) (f1 89 i) = true) (hh_9 : f1_7 80 = bkN (oR f) (f1 80) (f1 89 i) (pyI (aR f) (oR f) (f (fv 79 12) 0) (lwR f) (f1 89) (f1 (fv 79 15) 0) i)) (hh_10 : f1_7 103 = bkR (oR f) (f1 80) (f1 103) (f (fv 79 12) 0) (f1 89 i) i (pyI (aR f) (oR f) (f (fv 79 12) 0) (lwR f) (f1 89) (f1 (fv 79 15) 0) i)) => ?_))
      · have hstep := (prI_s (ab := aR f) (ow := oR f) (day := f (fv 79 12) 0) (w := lwR f) (pg := f 88) (n := (f (fv 79 13) 0)) (jl := (f (fv 79 11) 0)) (p := (f 80, f 103, -1, 0)) (i := i) (by omega)).trans (prS_g hi2.2 hcs hh_6)
        have hbg : (∀ a, 0 ≤ a → a < 8 → 0 ≤ wv f1 80 38 (w32 (f1 80 38 + 1)) 80 a ∧ wv f1 80 38 (w32 (f1 80 38 + 1)) 80 a ≤ 99999) ∧ 0 ≤ wv f1 80 38 (w32 (f1 80 38 + 1)) 80 37 ∧ wv f1 80 38 (w32 (f1 80 38 + 1)) 80 37 ≤ 200 := ⟨fun a h0 h1 => by rw [wv_k (by omega)]; exact hb.1 a h0 h1, by rw [wv_k (by omega)]; exact hb.2⟩
        refine ⟨fun _ => ?_, fun h => absurd (show (0 : Int) = 0 from by decide) h⟩
        refine ⟨show 0 ≤ (i : Int) ∧ i < 60 from by omega, ?_⟩
        refine ⟨show 0 ≤ (i : Int) ∧ i < 60 from by omega, ?_⟩
        refine ⟨show inr (i + 1) from by constructor <;> omega, ?_⟩
        refine hB (2 * ((f (fv 79 13) 0) - (i + 1)) + 1 : Int).toNat ?_ (Or.inl ⟨rfl, la, cn, (i + 1), (wv (wv f1 80 38 (w32 ((f1 80 38) + 1))) 89 i (f 88 i)), rfl, rfl, (mx_wv rfl (mx_wv rfl rfl)), rfl, ?_, ?_, ?_, ?_, ?_, ?_, ?_, ?_, ?_, ?_⟩)
        · omega
        · exact hk
        · omega
        · exact hn
        · rw [hstep]; exact hc
        · rw [hstep]; exact hla
        · exact hbg
        · rw [hstep]; show wv f1 80 38 _ 80 = _; rw [wv_up, h80]; rfl
        · rw [hstep]; exact h103
        · intro k h0 h1
          rw [wv_i]
          by_cases e : k = i
          · rw [if_pos e, e]
          · rw [if_neg e]; exact hrow k h0 h1 e
        · omega
      · have hstep := (prI_s (ab := aR f) (ow := oR f) (day := f (fv 79 12) 0) (w := lwR f) (pg := f 88) (n := (f (fv 79 13) 0)) (jl := (f (fv 79 11) 0)) (p := (f 80, f 103, -1, 0)) (i := i) (by omega)).trans (prS_p hi2.2 hcs hh_8)
        have hat := aR_t.mp hh_8
        have hob := ho (f1 89 i) (by omega) (by omega)
        have hq80 := hh_9
        have hq103 := hh_10
        rw [hpye, h80] at hq80
        rw [hpye, h80, h103] at hq103
        have hbk := bk_r (pay := pyI (aR f) (oR f) (f (fv 79 12) 0) (lwR f) (f1 89) (f1 (fv 79 15) 0) i) (ow := oR f) (s := f1 89 i) hb (by unfold oR; omega) (by omega) pyI_r
        rw [← hh_9] at hbk
        refine ⟨fun h => absurd (show (1 : Int) = 0 from h) (by decide), fun _ => ?_⟩
        refine ⟨show 0 ≤ (i : Int) ∧ i < 60 from by omega, ?_⟩
        refine Or.inl ⟨show inr (cn + 1) from by constructor <;> omega, ?_⟩
        refine ⟨show 0 ≤ (i : Int) ∧ i < 60 from by omega, ?_⟩
        refine ⟨show 0 ≤ (i : Int) ∧ i < 60 from by omega, ?_⟩
        refine ⟨show inr (i + 1) from by constructor <;> omega, ?_⟩
        refine hB (2 * ((f (fv 79 13) 0) - (i + 1)) + 1 : Int).toNat ?_ (Or.inl ⟨rfl, f1 89 i, (cn + 1), (i + 1), (wv (mx [80, 100, 101, 103] f1 f1_7) 89 i (f 88 i)), rfl, rfl, (mx_wv rfl (mx_mx rfl rfl)), rfl, ?_, ?_, ?_, ?_, ?_, ?_, ?_, ?_, ?_, ?_⟩)
        · omega
        · exact hk
        · omega
        · exact hn
        · rw [hstep]; show cn + 1 = _ + 1; rw [hc]
        · rw [hstep]; exact Or.inr ⟨by omega, by omega, by omega, rfl⟩
        · exact hbk
        · rw [hstep]; exact hq80
        · rw [hstep]; exact hq103
        · intro k h0 h1
          rw [wv_i]
          by_cases e : k = i
          · rw [if_pos e, e]
          · rw [if_neg e]; exact hrow k h0 h1 e
        · omega
  · have hg1 := hg.1
    refine hO (c_keeps (by omega) (show 0 ≤ (f (fv 79 3) 0) ∧ (f (fv 79 3) 0) ≤ 6 from by omega) (fun f1_11 (hh_12 : ((f (fv 79 3) 0) = 6 ∧ f1_11 (fv 79 3) 0 = 6 ∧ (∀ j, 0 ≤ j → j < 200 → f1_11 81 j = (f 81 (j + 40))) ∧ ∀ j, 0 ≤ j → j < 40 → f1_11 81 (200 + j) = (f 80 j)) ∨ (¬ (f (fv 79 3) 0) = 6 ∧ f1_11 (fv 79 3) 0 = (f (fv 79 3) 0) + 1 ∧ (∀ j, 0 ≤ j → j < 40 * (f (fv 79 3) 0) → f1_11 81 j = (f 81 j)) ∧ ∀ j, 0 ≤ j → j < 40 → f1_11 81 (40 * (f (fv 79 3) 0) + j) = (f 80 j))) => ?_))
    have hke := hh_12
    refine hO (c_thinks (by omega) (show (pgB f) from hg) (fun f1_13 (hh_14 : f1_13 (fv 79 15) 0 = (f (fv 79 13) 0)) (hh_15 : ∀ i, 0 ≤ i → i < (f (fv 79 13) 0) → f1_13 89 i = (f 88 i)) => ?_))
    have hn0 := hh_14
    have hrow0 := hh_15
    refine hF (2 * ((f (fv 79 13) 0) - 0) + 1 : Int).toNat ?_ (Or.inl ⟨rfl, (-1), 0, 0, (mx [89, fv 79 15] (mx [81, fv 79 3] (wv f (fv 79 0) 0 0) f1_11) f1_13), rfl, rfl, (mx_mx rfl (mx_mx rfl (mx_wv rfl mx_rf))), rfl, ?_, ?_, ?_, ?_, ?_, ?_, ?_, ?_, ?_, ?_⟩)
    · omega
    · exact hke
    · omega
    · exact hn0
    · rfl
    · exact Or.inl ⟨rfl, rfl⟩
    · exact hpu
    · rfl
    · rfl
    · exact hrow0
    · omega
end C14
