section C48
variable {d : Nat} {f : iF} {g : iG} {Q : Option iv → iF → iG → Prop}
/-! ===== the reference: text ===== -/
theorem slN_sh {c c' : Int → Int} : ∀ (m : Nat) (a b : Int), (∀ q : Int, 0 ≤ q → q < m → c (a + q) = c' (b + q)) → slN c m a = slN c' m b
  | 0, _, _, _ => rfl
  | m + 1, a, b, h => by
    have h0 := h 0 (by omega) (by omega)
    rw [Int.add_zero, Int.add_zero] at h0
    rw [slN, slN, h0, slN_sh m (a + 1) (b + 1) (fun q q0 q1 => by rw [show a + 1 + q = a + (q + 1) by omega, show b + 1 + q = b + (q + 1) by omega]; exact h (q + 1) (by omega) (by omega))]
theorem sl_sh {c c' : Int → Int} {n : Int} (h : ∀ q : Int, 0 ≤ q → q < n → c q = c' (400 + q)) : sl c 0 n = sl c' 400 (400 + n) := by
  unfold sl
  rw [show (n - 0).toNat = n.toNat by omega, show (400 + n - 400).toNat = n.toNat by omega]
  exact slN_sh _ _ _ (fun q q0 q1 => by rw [show (0 : Int) + q = q by omega]; exact h q q0 (by omega))
/-- what reading a text brought -/
def txR (f F : iF) (k : Int) : Prop := (∃ a, Rch (kdR f) (nxR f) (0, [], skp (f 92) (f (fv 79 21) 0) 0, [], []) (99, [], a, sl (rcd F) 400 (400 + F (fv 79 33) 0), wlR (F 94) (F 96) k)) ∧ (0 ≤ k ∧ k ≤ 16) ∧ (0 ≤ F (fv 79 33) 0 ∧ F (fv 79 33) 0 ≤ 400) ∧ (∀ l, 0 ≤ l → l < k → F 95 (16 + l) = if l = 0 then 0 else F 96 (15 + l)) ∧ (∀ q, 400 ≤ q → q < 400 + F (fv 79 33) 0 → opok (F 97 q) (F 98 q)) ∧ dfr f F
set_option maxRecDepth 100000 in
set_option maxHeartbeats 4000000 in
theorem c_text (hd : 10 ≤ d) (htp : tpB (f 92) (f (fv 79 21) 0)) (hwd : (wdB f)) (k0 : ∀ kk : Int, ∀ nn : Int, ∀ f1 : iF, (∃ a, Rch (kdR f) (nxR f) (0, [], skp (f 92) (f (fv 79 21) 0) 0, [], []) (99, [], a, sl (rcd f1) 0 nn, wlI (f1 94) (fun x => f1 96 (x - 1)) kk)) → (0 ≤ kk ∧ kk ≤ 16) → (0 ≤ nn ∧ nn ≤ 400) → (∀ l, 0 ≤ l → l < kk → f1 95 l = if l = 0 then 0 else f1 96 (l - 1)) → ((∀ k, 0 ≤ k → k < 400 → opok (f 97 k) (f 98 k)) → ∀ k, 0 ≤ k → k < 400 → opok (f1 97 k) (f1 98 k)) → (f1 (fv 79 27) 0 = kk ∧ f1 (fv 79 21) 0 = 0 ∧ f1 (fv 79 39) 0 = 0 ∧ f1 (fv 79 40) 0 = -1 ∧ f1 (fv 79 0) 0 = 0) → Q (some (iI kk)) (mx [97, 98, fv 79 33, fv 79 22, fv 79 23, fv 79 24, fv 79 25, fv 79 34, fv 79 36, 99, 94, 95, 96, fv 79 37, fv 79 38, fv 79 0, fv 79 39, fv 79 40, fv 79 21, fv 79 27] f f1) g) (k1 : ∀ f1 : iF, (flt (kdR f) (nxR f) (0, [], skp (f 92) (f (fv 79 21) 0) 0, [], []) (f1 (fv 79 39) 0) (f1 (fv 79 40) 0)) → ((dfr f) f1) → ((lfr f) f1) → (f1 (fv 79 21) 0 = 0 ∧ f1 (fv 79 0) 0 = 0) → Q (some (iI (-1))) (mx [97, 98, fv 79 33, fv 79 22, fv 79 23, fv 79 24, fv 79 25, fv 79 34, fv 79 36, 99, 94, 95, 96, fv 79 37, fv 79 38, fv 79 0, fv 79 39, fv 79 40, fv 79 21] f f1) g) : wq d 40 [iR 79] f g Q := by
  obtain ⟨d, rfl⟩ : ∃ e, d = e + 1 := ⟨d - 1, by omega⟩
  refine i_meth [(41, 3), (78, 3)] (fun n j lv st f' g' => (j = 41 ∧ ∃ (kk9 : Int) (ll9 : Int) (F9 : iF) (f1 : iF), lv = [some (iR 79), some (iI kk9), some (iI ll9)] ∧ st = [] ∧ f' = (mx [97, 98, fv 79 33, fv 79 22, fv 79 23, fv 79 24, fv 79 25, fv 79 34, fv 79 36, 99, 94, 95, 96, fv 79 37, fv 79 38, fv 79 0, fv 79 39, fv 79 40, fv 79 21] f f1) ∧ g = g' ∧ (txR f F9 kk9) ∧ (f1 (fv 79 33) 0 = F9 (fv 79 33) 0 ∧ f1 (fv 79 39) 0 = 0 ∧ f1 (fv 79 40) 0 = -1 ∧ f1 (fv 79 21) 0 = 0 ∧ f1 (fv 79 0) 0 = 0) ∧ (0 ≤ ll9 ∧ ll9 ≤ kk9) ∧ (f1 97 = F9 97 ∧ f1 98 = F9 98) ∧ (∀ q, 0 ≤ q → q < ll9 → f1 94 q = F9 94 (16 + q) ∧ f1 95 q = F9 95 (16 + q) ∧ f1 96 q = F9 96 (16 + q)) ∧ (∀ q, 16 ≤ q → f1 94 q = F9 94 q ∧ f1 95 q = F9 95 q ∧ f1 96 q = F9 96 q) ∧ (n : Int) = 800 - ll9) ∨ (j = 78 ∧ ∃ (kk9 : Int) (ii9 : Int) (F9 : iF) (f1 : iF), lv = [some (iR 79), some (iI kk9), some (iI ii9)] ∧ st = [] ∧ f' = (mx [97, 98, fv 79 33, fv 79 22, fv 79 23, fv 79 24, fv 79 25, fv 79 34, fv 79 36, 99, 94, 95, 96, fv 79 37, fv 79 38, fv 79 0, fv 79 39, fv 79 40, fv 79 21] f f1) ∧ g = g' ∧ (txR f F9 kk9) ∧ (f1 (fv 79 33) 0 = F9 (fv 79 33) 0 ∧ f1 (fv 79 39) 0 = 0 ∧ f1 (fv 79 40) 0 = -1 ∧ f1 (fv 79 21) 0 = 0 ∧ f1 (fv 79 0) 0 = 0) ∧ (0 ≤ ii9 ∧ ii9 ≤ F9 (fv 79 33) 0) ∧ (∀ q, 0 ≤ q → q < kk9 → f1 94 q = F9 94 (16 + q) ∧ f1 95 q = F9 95 (16 + q) ∧ f1 96 q = F9 96 (16 + q)) ∧ (∀ q, 0 ≤ q → q < ii9 → f1 97 q = F9 97 (400 + q) ∧ f1 98 q = F9 98 (400 + q)) ∧ (∀ q, 400 ≤ q → f1 97 q = F9 97 q ∧ f1 98 q = F9 98 q) ∧ (∀ q, ii9 ≤ q → q < 400 → f1 97 q = f 97 q ∧ f1 98 q = f 98 q) ∧ (n : Int) = 401 - ii9)) 900 (by omega) rfl rfl (fun n j lv st f' g' hn hI O J hO hF hB => ?_) (fun hvs hin O J hO hF => ?_)
  · rcases hI with hI | hI
    · obtain ⟨rfl, kk9, ll9, F9, f1, rfl, rfl, rfl, rfl, hT, hFx, hl, h97, hcp, hhi, hm⟩ := hI
      have hT2 := hT.2.1
      have hT3 := hT.2.2.1
      have hF1 := hFx.1
      refine ⟨fun (hh_1 : ll9 < kk9) => ?_, fun (hh_1 : ¬ ll9 < kk9) => ?_⟩
      · refine Or.inl ⟨show inr (16 + ll9) from by constructor <;> omega, ?_⟩
        refine ⟨show 0 ≤ ((16 + ll9) : Int) ∧ (16 + ll9) < 32 from by omega, ?_⟩
        refine ⟨show 0 ≤ (ll9 : Int) ∧ ll9 < 32 from by omega, ?_⟩
        refine Or.inl ⟨show inr (16 + ll9) from by constructor <;> omega, ?_⟩
        refine ⟨show 0 ≤ ((16 + ll9) : Int) ∧ (16 + ll9) < 32 from by omega, ?_⟩
        refine ⟨show 0 ≤ (ll9 : Int) ∧ ll9 < 32 from by omega, ?_⟩
        refine Or.inl ⟨show inr (16 + ll9) from by constructor <;> omega, ?_⟩
        refine ⟨show 0 ≤ ((16 + ll9) : Int) ∧ (16 + ll9) < 32 from by omega, ?_⟩
        refine ⟨show 0 ≤ (ll9 : Int) ∧ ll9 < 32 from by omega, ?_⟩
        refine ⟨show inr (ll9 + 1) from by constructor <;> omega, ?_⟩
        have e94 : (wv (wv (wv f1 94 ll9 (f1 94 (16 + ll9))) 95 ll9 (f1 95 (16 + ll9))) 96 ll9 (f1 96 (16 + ll9))) 94 = up (f1 94) ll9 (f1 94 (16 + ll9)) := wv_up
        have e95 : (wv (wv (wv f1 94 ll9 (f1 94 (16 + ll9))) 95 ll9 (f1 95 (16 + ll9))) 96 ll9 (f1 96 (16 + ll9))) 95 = up (f1 95) ll9 (f1 95 (16 + ll9)) := wv_up
        have e96 : (wv (wv (wv f1 94 ll9 (f1 94 (16 + ll9))) 95 ll9 (f1 95 (16 + ll9))) 96 ll9 (f1 96 (16 + ll9))) 96 = up (f1 96) ll9 (f1 96 (16 + ll9)) := wv_up
        refine hB (800 - (ll9 + 1) : Int).toNat ?_ (Or.inl ⟨rfl, kk9, (ll9 + 1), F9, (wv (wv (wv f1 94 ll9 (f1 94 (16 + ll9))) 95 ll9 (f1 95 (16 + ll9))) 96 ll9 (f1 96 (16 + ll9))), rfl, rfl, (mx_wv rfl (mx_wv rfl (mx_wv rfl rfl))), rfl, ?_, ?_, ?_, ?_, ?_, ?_, ?_⟩)
        · omega
        · exact hT
        · exact hFx
        · omega
        · exact h97
        · intro q h0 h1
          rw [e94, e95, e96]
          by_cases e : q = ll9
          · rw [e, up_s, up_s, up_s]; exact hhi _ (by omega)
          · rw [up_n e, up_n e, up_n e]; exact hcp q h0 (by omega)
        · intro q h0
          rw [e94, e95, e96, up_n (by omega), up_n (by omega), up_n (by omega)]; exact hhi q h0
        · omega
      · refine hF (401 - 0 : Int).toNat ?_ (Or.inr (⟨rfl, kk9, 0, F9, f1, rfl, rfl, rfl, rfl, ?_, ?_, ?_, ?_, ?_, ?_, ?_, ?_⟩))
        · omega
        · exact hT
        · exact hFx
        · omega
        · exact fun q h0 h1 => hcp q h0 (by omega)
        · intro q h0 h1; omega
        · intro q h0; rw [h97.1, h97.2]; exact ⟨rfl, rfl⟩
        · intro q h0 h1; rw [h97.1, h97.2]; exact hT.2.2.2.2.2 q h1
        · omega
    · obtain ⟨rfl, kk9, ii9, F9, f1, rfl, rfl, rfl, rfl, hT, hFx, hi, hcp, hco, hch, hcr, hm⟩ := hI
      have hT2 := hT.2.1
      have hT3 := hT.2.2.1
      have hF1 := hFx.1
      refine ⟨fun (hh_2 : ii9 < f1 (fv 79 33) 0) => ?_, fun (hh_2 : ¬ ii9 < f1 (fv 79 33) 0) => ?_⟩
      · refine Or.inl ⟨show inr (400 + ii9) from by constructor <;> omega, ?_⟩
        refine ⟨show 0 ≤ ((400 + ii9) : Int) ∧ (400 + ii9) < 800 from by omega, ?_⟩
        refine ⟨show 0 ≤ (ii9 : Int) ∧ ii9 < 800 from by omega, ?_⟩
        refine Or.inl ⟨show inr (400 + ii9) from by constructor <;> omega, ?_⟩
        refine ⟨show 0 ≤ ((400 + ii9) : Int) ∧ (400 + ii9) < 800 from by omega, ?_⟩
        refine ⟨show 0 ≤ (ii9 : Int) ∧ ii9 < 800 from by omega, ?_⟩
        refine ⟨show inr (ii9 + 1) from by constructor <;> omega, ?_⟩
        have e97 : (wv (wv f1 97 ii9 (f1 97 (400 + ii9))) 98 ii9 (f1 98 (400 + ii9))) 97 = up (f1 97) ii9 (f1 97 (400 + ii9)) := wv_up
        have e98 : (wv (wv f1 97 ii9 (f1 97 (400 + ii9))) 98 ii9 (f1 98 (400 + ii9))) 98 = up (f1 98) ii9 (f1 98 (400 + ii9)) := wv_up
        refine hB (401 - (ii9 + 1) : Int).toNat ?_ (Or.inr (⟨rfl, kk9, (ii9 + 1), F9, (wv (wv f1 97 ii9 (f1 97 (400 + ii9))) 98 ii9 (f1 98 (400 + ii9))), rfl, rfl, (mx_wv rfl (mx_wv rfl rfl)), rfl, ?_, ?_, ?_, ?_, ?_, ?_, ?_, ?_⟩))
        · omega
        · exact hT
        · exact hFx
        · omega
        · exact hcp
        · intro q h0 h1
          rw [e97, e98]
          by_cases e : q = ii9
          · rw [e, up_s, up_s]; exact hch _ (by omega)
          · rw [up_n e, up_n e]; exact hco q h0 (by omega)
        · intro q h0
          rw [e97, e98, up_n (by omega), up_n (by omega)]; exact hch q h0
        · intro q h0 h1
          rw [e97, e98, up_n (by omega), up_n (by omega)]; exact hcr q (by omega) h1
        · omega
      · have hk := k0 kk9 (F9 (fv 79 33) 0) ((wv (mx [97, 98, fv 79 33, fv 79 22, fv 79 23, fv 79 24, fv 79 25, fv 79 34, fv 79 36, 99, 94, 95, 96, fv 79 37, fv 79 38, fv 79 0, fv 79 39, fv 79 40, fv 79 21] f f1) (fv 79 27) 0 kk9)) (by obtain ⟨a, q⟩ := hT.1; exact ⟨a, by rw [show sl (rcd (wv (mx [97, 98, fv 79 33, fv 79 22, fv 79 23, fv 79 24, fv 79 25, fv 79 34, fv 79 36, 99, 94, 95, 96, fv 79 37, fv 79 38, fv 79 0, fv 79 39, fv 79 40, fv 79 21] f f1) (fv 79 27) 0 kk9)) 0 (F9 (fv 79 33) 0) = sl (rcd F9) 400 (400 + F9 (fv 79 33) 0) from sl_sh (fun q q0 q1 => by show enc (f1 97 q) (f1 98 q) = enc (F9 97 (400 + q)) (F9 98 (400 + q)); rw [(hco q q0 (by omega)).1, (hco q q0 (by omega)).2]), show wlI ((wv (mx [97, 98, fv 79 33, fv 79 22, fv 79 23, fv 79 24, fv 79 25, fv 79 34, fv 79 36, 99, 94, 95, 96, fv 79 37, fv 79 38, fv 79 0, fv 79 39, fv 79 40, fv 79 21] f f1) (fv 79 27) 0 kk9) 94) (fun x => (wv (mx [97, 98, fv 79 33, fv 79 22, fv 79 23, fv 79 24, fv 79 25, fv 79 34, fv 79 36, 99, 94, 95, 96, fv 79 37, fv 79 38, fv 79 0, fv 79 39, fv 79 40, fv 79 21] f f1) (fv 79 27) 0 kk9) 96 (x - 1)) kk9 = wlR (F9 94) (F9 96) kk9 from wlN_cg _ (fun q q0 q1 => ⟨(hcp q (by omega) (by omega)).1, by show f1 96 (q + 1 - 1) = F9 96 (15 + (q + 1)); rw [show ((q : Int) + 1 - 1) = q by omega, (hcp q (by omega) (by omega)).2.2, show (15 + ((q : Int) + 1)) = 16 + q by omega]⟩)]; exact q⟩) hT2 hT3 (fun l l0 l1 => by show f1 95 l = if l = 0 then 0 else f1 96 (l - 1); rw [(hcp l l0 l1).2.1, hT.2.2.2.1 l l0 l1]; split; rfl; rw [(hcp (l - 1) (by omega) (by omega)).2.2, show 16 + (l - 1) = 15 + l by omega]) (fun ho q q0 q1 => by show opok (f1 97 q) (f1 98 q); by_cases e : q < ii9; (rw [(hco q q0 e).1, (hco q q0 e).2]; exact hT.2.2.2.2.1 _ (by omega) (by omega)); (rw [(hcr q (by omega) q1).1, (hcr q (by omega) q1).2]; exact ho q q0 q1)) ⟨rfl, hFx.2.2.2.1, hFx.2.1, hFx.2.2.1, hFx.2.2.2.2⟩
        rw [show mx [97, 98, fv 79 33, fv 79 22, fv 79 23, fv 79 24, fv 79 25, fv 79 34, fv 79 36, 99, 94, 95, 96, fv 79 37, fv 79 38, fv 79 0, fv 79 39, fv 79 40, fv 79 21, fv 79 27] f (wv (mx [97, 98, fv 79 33, fv 79 22, fv 79 23, fv 79 24, fv 79 25, fv 79 34, fv 79 36, 99, 94, 95, 96, fv 79 37, fv 79 38, fv 79 0, fv 79 39, fv 79 40, fv 79 21] f f1) (fv 79 27) 0 kk9) = (wv (mx [97, 98, fv 79 33, fv 79 22, fv 79 23, fv 79 24, fv 79 25, fv 79 34, fv 79 36, 99, 94, 95, 96, fv 79 37, fv 79 38, fv 79 0, fv 79 39, fv 79 40, fv 79 21] f f1) (fv 79 27) 0 kk9) from ((mx_wv rfl (mx_mx rfl mx_rf))).symm] at hk
        exact hk
  · have htp1 := htp.1
    refine hO (c_reads (by omega) (show tpB (f 92) (f (fv 79 21) 0) from htp) (show 0 ≤ (0) ∧ (0) ≤ (f (fv 79 21) 0) from ⟨Int.le_refl _, htp1.1⟩) (show (wdB f) from hwd) (fun f1_3 (hh_4 : f1_3 (fv 79 23) 0 = skp (f 92) (f (fv 79 21) 0) (0)) (hh_5 : f1_3 (fv 79 22) 0 = spP (f 92) (f (fv 79 21) 0) (f1_3 (fv 79 23) 0)) (hh_6 : tvP (kdP (f 92) (f (fv 79 21) 0) (f1_3 (fv 79 23) 0)) (f1_3 (fv 79 24) 0) (f1_3 (fv 79 25) 0)) => ?_))
    have hr1 : f1_3 (fv 79 23) 0 = skp (f 92) (f (fv 79 21) 0) 0 := hh_4
    have hr2 := hh_5
    have hr3 := hh_6
    have hsk := skp_r (t := f 92) (len := f (fv 79 21) 0) (a := 0) htp1.1
    have hrdX : rdR (mx [fv 79 22, fv 79 23, fv 79 24, fv 79 25] (wv (wv (wv (wv (wv (wv f (fv 79 0) 0 0) (fv 79 39) 0 0) (fv 79 40) 0 (-1)) (fv 79 22) 0 0) (fv 79 33) 0 0) (fv 79 34) 0 0) f1_3) := ⟨htp, hwd, by show 0 ≤ f1_3 (fv 79 23) 0 ∧ f1_3 (fv 79 23) 0 ≤ f (fv 79 21) 0; rw [hr1]; exact hsk, hr2, hr3, Int.le_refl _, fun k (h0 : 400 ≤ k) (h1 : k < 400 + 0) => by omega⟩
    refine hO (c_readText (by omega) (show (rdR (mx [fv 79 22, fv 79 23, fv 79 24, fv 79 25] (wv (wv f (fv 79 22) 0 0) (fv 79 33) 0 0) f1_3)) from hrdX) (show (0) = 0 from rfl) (show (0) = 0 from rfl) (fun kk_7 f1_8 (hh_9 :  (rdR (mx [97, 98, fv 79 33, fv 79 22, fv 79 23, fv 79 24, fv 79 25, fv 79 34, fv 79 36, 99, 94, 95, 96] (mx [fv 79 22, fv 79 23, fv 79 24, fv 79 25] (wv (wv f (fv 79 22) 0 0) (fv 79 33) 0 0) f1_3) f1_8))) (hh_10 : Rch (kdR f) (nxR f) (0, [], (f1_3 (fv 79 23) 0), [], []) (99, [], f1_8 (fv 79 23) 0, (sl (rcd f1_8) 400 (400 + f1_8 (fv 79 33) 0)), (wlR (f1_8 94) (f1_8 96) kk_7))) (hh_11 : 0 ≤ kk_7 ∧ kk_7 ≤ 16) (hh_12 : f1_8 (fv 79 33) 0 ≤ 400) (hh_13 : ∀ l, 0 ≤ l → l < kk_7 → f1_8 95 (16 + l) = if l = 0 then 0 else f1_8 96 (15 + l)) (hh_14 : (dfr f) f1_8) (hh_15 : (lfr f) f1_8) => ?_) (fun f1_16 (hh_17 : flt (kdR f) (nxR f) (0, [], (f1_3 (fv 79 23) 0), [], []) (f1_16 (fv 79 37) 0) (f1_16 (fv 79 38) 0)) (hh_18 : (dfr f) f1_16) (hh_19 : (lfr f) f1_16) => ?_))
    · have hq1 := hh_9
      have hq2 := hh_10
      have hq3 := hh_11
      have hq4 := hh_12
      have hq5 := hh_13
      have hq6 := hh_14
      rw [hr1] at hq2
      have hTX : txR f f1_8 kk_7 := ⟨⟨_, hq2⟩, hq3, ⟨(rdR_b hq1).2.2.2, hq4⟩, hq5, hq1.2.2.2.2.2.2, hq6⟩
      refine ⟨fun (hh_20 : kk_7 = (-1)) => ?_, fun (hh_20 : ¬ kk_7 = (-1)) => ?_⟩
      · first
        | (exfalso; omega)
        | (have hk := k1 ((wv (wv (wv (mx [97, 98, fv 79 33, fv 79 22, fv 79 23, fv 79 24, fv 79 25, fv 79 34, fv 79 36, 99, 94, 95, 96] (mx [fv 79 22, fv 79 23, fv 79 24, fv 79 25] (wv (wv (wv (wv (wv (wv f (fv 79 0) 0 0) (fv 79 39) 0 0) (fv 79 40) 0 (-1)) (fv 79 22) 0 0) (fv 79 33) 0 0) (fv 79 34) 0 0) f1_3) f1_8) (fv 79 21) 0 0) (fv 79 39) 0 (f (fv 79 37) 0)) (fv 79 40) 0 (f (fv 79 38) 0))) hf1 hf2 hf3 ⟨rfl, rfl⟩; rw [show mx [97, 98, fv 79 33, fv 79 22, fv 79 23, fv 79 24, fv 79 25, fv 79 34, fv 79 36, 99, 94, 95, 96, fv 79 37, fv 79 38, fv 79 0, fv 79 39, fv 79 40, fv 79 21] f (wv (wv (wv (mx [97, 98, fv 79 33, fv 79 22, fv 79 23, fv 79 24, fv 79 25, fv 79 34, fv 79 36, 99, 94, 95, 96] (mx [fv 79 22, fv 79 23, fv 79 24, fv 79 25] (wv (wv (wv (wv (wv (wv f (fv 79 0) 0 0) (fv 79 39) 0 0) (fv 79 40) 0 (-1)) (fv 79 22) 0 0) (fv 79 33) 0 0) (fv 79 34) 0 0) f1_3) f1_8) (fv 79 21) 0 0) (fv 79 39) 0 (f (fv 79 37) 0)) (fv 79 40) 0 (f (fv 79 38) 0)) = (wv (wv (wv (mx [97, 98, fv 79 33, fv 79 22, fv 79 23, fv 79 24, fv 79 25, fv 79 34, fv 79 36, 99, 94, 95, 96] (mx [fv 79 22, fv 79 23, fv 79 24, fv 79 25] (wv (wv (wv (wv (wv (wv f (fv 79 0) 0 0) (fv 79 39) 0 0) (fv 79 40) 0 (-1)) (fv 79 22) 0 0) (fv 79 33) 0 0) (fv 79 34) 0 0) f1_3) f1_8) (fv 79 21) 0 0) (fv 79 39) 0 (f (fv 79 37) 0)) (fv 79 40) 0 (f (fv 79 38) 0)) from ((mx_wv rfl (mx_wv rfl (mx_wv rfl (mx_mx rfl (mx_mx rfl (mx_wv rfl (mx_wv rfl (mx_wv rfl (mx_wv rfl (mx_wv rfl (mx_wv rfl mx_rf)))))))))))).symm] at hk; exact hk)
      · refine hF (800 - 0 : Int).toNat ?_ (Or.inl ⟨rfl, kk_7, 0, f1_8, (wv (mx [97, 98, fv 79 33, fv 79 22, fv 79 23, fv 79 24, fv 79 25, fv 79 34, fv 79 36, 99, 94, 95, 96] (mx [fv 79 22, fv 79 23, fv 79 24, fv 79 25] (wv (wv (wv (wv (wv (wv f (fv 79 0) 0 0) (fv 79 39) 0 0) (fv 79 40) 0 (-1)) (fv 79 22) 0 0) (fv 79 33) 0 0) (fv 79 34) 0 0) f1_3) f1_8) (fv 79 21) 0 0), rfl, rfl, (mx_wv rfl (mx_mx rfl (mx_mx rfl (mx_wv rfl (mx_wv rfl (mx_wv rfl (mx_wv rfl (mx_wv rfl (mx_wv rfl mx_rf))))))))), rfl, ?_, ?_, ?_, ?_, ?_, ?_, ?_⟩)
        · omega
        · exact hTX
        · exact ⟨rfl, rfl, rfl, rfl, rfl⟩
        · exact ⟨Int.le_refl _, hq3.1⟩
        · exact ⟨rfl, rfl⟩
        · intro q h0 h1; omega
        · exact fun q _ => ⟨rfl, rfl, rfl⟩
        · omega
    · have hf1 := hh_17
      have hf2 := hh_18
      have hf3 := hh_19
      rw [hr1] at hf1
      refine ⟨fun _ => ?_, fun h => absurd (show ((-1) : Int) = (-1) from by decide) h⟩
      first
      | (exfalso; omega)
      | (have hk := k1 ((wv (wv (wv (mx [97, 98, fv 79 33, fv 79 22, fv 79 23, fv 79 24, fv 79 25, fv 79 34, fv 79 36, 99, 94, 95, 96, fv 79 37, fv 79 38] (mx [fv 79 22, fv 79 23, fv 79 24, fv 79 25] (wv (wv (wv (wv (wv (wv f (fv 79 0) 0 0) (fv 79 39) 0 0) (fv 79 40) 0 (-1)) (fv 79 22) 0 0) (fv 79 33) 0 0) (fv 79 34) 0 0) f1_3) f1_16) (fv 79 21) 0 0) (fv 79 39) 0 (f1_16 (fv 79 37) 0)) (fv 79 40) 0 (f1_16 (fv 79 38) 0))) hf1 hf2 hf3 ⟨rfl, rfl⟩; rw [show mx [97, 98, fv 79 33, fv 79 22, fv 79 23, fv 79 24, fv 79 25, fv 79 34, fv 79 36, 99, 94, 95, 96, fv 79 37, fv 79 38, fv 79 0, fv 79 39, fv 79 40, fv 79 21] f (wv (wv (wv (mx [97, 98, fv 79 33, fv 79 22, fv 79 23, fv 79 24, fv 79 25, fv 79 34, fv 79 36, 99, 94, 95, 96, fv 79 37, fv 79 38] (mx [fv 79 22, fv 79 23, fv 79 24, fv 79 25] (wv (wv (wv (wv (wv (wv f (fv 79 0) 0 0) (fv 79 39) 0 0) (fv 79 40) 0 (-1)) (fv 79 22) 0 0) (fv 79 33) 0 0) (fv 79 34) 0 0) f1_3) f1_16) (fv 79 21) 0 0) (fv 79 39) 0 (f1_16 (fv 79 37) 0)) (fv 79 40) 0 (f1_16 (fv 79 38) 0)) = (wv (wv (wv (mx [97, 98, fv 79 33, fv 79 22, fv 79 23, fv 79 24, fv 79 25, fv 79 34, fv 79 36, 99, 94, 95, 96, fv 79 37, fv 79 38] (mx [fv 79 22, fv 79 23, fv 79 24, fv 79 25] (wv (wv (wv (wv (wv (wv f (fv 79 0) 0 0) (fv 79 39) 0 0) (fv 79 40) 0 (-1)) (fv 79 22) 0 0) (fv 79 33) 0 0) (fv 79 34) 0 0) f1_3) f1_16) (fv 79 21) 0 0) (fv 79 39) 0 (f1_16 (fv 79 37) 0)) (fv 79 40) 0 (f1_16 (fv 79 38) 0)) from ((mx_wv rfl (mx_wv rfl (mx_wv rfl (mx_mx rfl (mx_mx rfl (mx_wv rfl (mx_wv rfl (mx_wv rfl (mx_wv rfl (mx_wv rfl (mx_wv rfl mx_rf)))))))))))).symm] at hk; exact hk)
end C48
