section C32
variable {d : Nat} {f : iF} {g : iG} {Q : Option iv → iF → iG → Prop}
/-! ===== the class: a bound of pays ===== -/
theorem i2l_i {x : Int} (h : 0 ≤ x ∧ x ≤ 1000000) : (b_i2l x).toInt = x := by
  unfold b_i2l
  rw [Int32.toInt_toInt64, ofI_toInt ⟨by omega, by omega⟩]
theorem l_ofI {z : Int} (h : 0 ≤ z ∧ z ≤ 1000000000000) : (Int64.ofInt z).toInt = z := Int64.toInt_ofInt_of_le (by omega) (by omega)
theorem i2l_of {x : Int} (h : 0 ≤ x ∧ x ≤ 1000000) : b_i2l x = Int64.ofInt x := by rw [← Int64.ofInt_toInt (b_i2l x), i2l_i h]
theorem l_add {x y : Int} (hx : 0 ≤ x ∧ x ≤ 1000000) (hy : 0 ≤ y ∧ y ≤ 1000000) : (b_i2l x + b_i2l y).toInt = x + y := by
  rw [i2l_of hx, i2l_of hy, ← Int64.ofInt_add, l_ofI (by omega)]
theorem l_mul {x y : Int} (hx : 0 ≤ x ∧ x ≤ 1000000) (hy : 0 ≤ y ∧ y ≤ 1000000) : (b_i2l x * b_i2l y).toInt = x * y := by
  have := mul_le2 hx.1 hx.2 hy.1 hy.2
  rw [i2l_of hx, i2l_of hy, ← Int64.ofInt_mul, l_ofI (by omega)]
theorem l_div {x y : Int} (hx : 0 ≤ x ∧ x ≤ 1000000) (hy : 0 < y ∧ y ≤ 1000000) : (b_i2l x / b_i2l y).toInt = x / y := by
  have h0 : 0 ≤ x / y := Int.ediv_nonneg hx.1 (by omega)
  have h1 : x / y ≤ x := Int.ediv_le_self y hx.1
  rw [i2l_of hx, i2l_of (by omega), ← Int64.ofInt_tdiv (by rw [Int64.toInt_minValue]; omega) (by rw [Int64.toInt_maxValue]; omega) (by rw [Int64.toInt_minValue]; omega) (by rw [Int64.toInt_maxValue]; omega), Int.tdiv_eq_ediv_of_nonneg hx.1, l_ofI (by omega)]
theorem lcmp_gt {x y : Int64} : 0 < (lg_cmp x y).toInt ↔ y.toInt < x.toInt := by
  unfold lg_cmp
  have e : x > y ↔ y.toInt < x.toInt := Int64.lt_iff_toInt_lt
  by_cases h : x > y
  · rw [if_pos h]
    exact ⟨fun _ => e.mp h, fun _ => by decide⟩
  · rw [if_neg h]
    refine ⟨fun q => ?_, fun q => absurd (e.mpr q) h⟩
    split at q <;> exact absurd q (by decide)
theorem l2i_i {x : Int64} (h : 0 ≤ x.toInt ∧ x.toInt ≤ 1000000) : b_l2i x = x.toInt := by
  unfold b_l2i
  rw [Int64.toInt_toInt32]
  unfold Int.bmod
  rw [show ((2 ^ 32 : Nat) : Int) = 4294967296 by decide]
  dsimp only
  rw [Int.emod_eq_of_lt (by omega) (by omega), if_pos (by omega)]
theorem l_ne {y : Int} (h : 0 < (lg_cmp (b_i2l y) (Int64.ofInt 0)).toInt) : ¬ b_i2l y = 0 := fun e => by
  rw [e] at h
  exact absurd h (by decide)
set_option maxRecDepth 100000 in
set_option maxHeartbeats 4000000 in
theorem k_mostSum {fr to : Int} (hd : 1 ≤ d) (h0 : 0 ≤ fr ∧ fr < to ∧ to ≤ 400) (hw : ∃ t, t ≤ 2 ∧ tyl (sl (f 16) fr to) [] = some [t]) (hbd : ∀ q, 0 ≤ q → q ≤ 8 → 0 ≤ (f 57 q) ∧ (f 57 q) ≤ 9999) (k0 : ∀ r : Int, ∀ f1 : iF, (0 ≤ r ∧ r ≤ 99) → (∀ fa, bnd fa (f 57) → clp (hdv (ev fa (sl (f 16) fr to) [])) ≤ r) → Q (some (iI r)) (mx [58] f f1) g) : wq d 120 [iR 15, iI fr, iI to, iR 57, iR 58] f g Q := by
  obtain ⟨d, rfl⟩ : ∃ e, d = e + 1 := ⟨d - 1, by omega⟩
  refine i_meth [(6, 7), (86, 12)] (fun n j lv st f' g' => (j = 6 ∧ ∃ (top : Int) (k : Int) (bs : List Int) (ts : List Int) (f1 : iF), lv = [some (iR 15), some (iI fr), some (iI to), some (iR 57), some (iR 58), some (iI top), some (iI k)] ∧ st = [] ∧ f' = (mx [58] f f1) ∧ g = g' ∧ (mrs (f 57) (f 16) fr to k (f1 58) top bs ts) ∧ (n : Int) = to - k) ∨ (j = 86 ∧ ∃ (top : Int) (k : Int) (op : Int) (a64 : Int64) (b64 : Int64) (mj : Int64) (bm : Int) (ts2 : List Int) (f1 : iF), lv = [some (iR 15), some (iI fr), some (iI to), some (iR 57), some (iR 58), some (iI top), some (iI k), some (iI op), some (iJ a64), none, some (iJ b64), none] ∧ st = [(iJ mj)] ∧ f' = (mx [58] f f1) ∧ g = g' ∧ (fr ≤ k ∧ k < to ∧ 1 ≤ top ∧ top ≤ 63) ∧ (mj.toInt = bm ∧ 0 ≤ bm) ∧ (∀ r' : Int → Int, bm ≤ 1000000 → r' (top - 1) = bm → (∀ j, 0 ≤ j → j < top - 1 → r' j = f1 58 j) → ∃ bs', mrs (f 57) (f 16) fr to (k + 1) r' top bs' ts2) ∧ (n : Int) = to - k)) 400 (by omega) rfl rfl (fun n j lv st f' g' hn hI O J hO hF hB => ?_) (fun hvs hin O J hO hF => ?_)
  · rcases hI with hI | hI
    · obtain ⟨rfl, top, k, bs, ts, f1, rfl, rfl, rfl, rfl, hr, hm⟩ := hI
      obtain ⟨tw, ht2, hw⟩ := hw
      have hr1 := hr.1
      have hr2 := hr.2.1
      refine ⟨fun (hh_1 : k < to) => ?_, fun (hh_1 : ¬ k < to) => ?_⟩
      · obtain ⟨ts2, ht, h3n⟩ := mrs_t hr (by omega) ht2 hw
        refine ⟨fun _ => ?_, fun h => absurd (show k < 400 from by omega) h⟩
        refine ⟨show 0 ≤ (k : Int) ∧ k < 400 from by omega, ?_⟩
        refine ⟨fun (hh_2 : f 16 k < (-9)) => ?_, fun (hh_2 : ¬ f 16 k < (-9)) => ?_⟩
        · have hop := mrs_op hbd (by omega) hr (by omega) ht h3n (by omega)
          rw [show top - 1 = top + (-1) by omega] at hop
          obtain ⟨htA, htB, hA9, hB9, hcc, hnx⟩ := hop
          refine ⟨show inr (top + (-1)) from by constructor <;> omega, ?_⟩
          refine ⟨fun h => absurd (show (top + (-1)) < 1 from h) (by omega), fun _ => ?_⟩
          refine Or.inl ⟨show inr ((top + (-1)) - 1) from by constructor <;> omega, ?_⟩
          refine ⟨show 0 ≤ (((top + (-1)) - 1) : Int) ∧ ((top + (-1)) - 1) < 64 from by omega, ?_⟩
          refine ⟨show 0 ≤ ((top + (-1)) : Int) ∧ (top + (-1)) < 64 from by omega, ?_⟩
          refine ⟨fun (hh_3 : f 16 k = (-10)) => ?_, fun (hh_3 : ¬ f 16 k = (-10)) => ?_⟩
          · refine hF (to - k : Int).toNat ?_ (Or.inr (⟨rfl, (top + (-1)), k, f 16 k, (b_i2l (f1 58 ((top + (-1)) - 1))), (b_i2l (f1 58 (top + (-1)))), ((b_i2l (f1 58 ((top + (-1)) - 1))) + (b_i2l (f1 58 (top + (-1))))), (bop (f 16 k) (f1 58 ((top + (-1)) - 1)) (f1 58 (top + (-1)))), ts2, f1, rfl, rfl, rfl, rfl, ?_, ?_, ?_, ?_⟩))
            · omega
            · omega
            · rw [show f 16 k = -10 by assumption]; exact ⟨l_add hA9 hB9, by show 0 ≤ _ + _; omega⟩
            · exact hnx
            · omega
          · refine ⟨fun (hh_4 : f 16 k = (-12)) => ?_, fun (hh_4 : ¬ f 16 k = (-12)) => ?_⟩
            · refine hF (to - k : Int).toNat ?_ (Or.inr (⟨rfl, (top + (-1)), k, f 16 k, (b_i2l (f1 58 ((top + (-1)) - 1))), (b_i2l (f1 58 (top + (-1)))), ((b_i2l (f1 58 ((top + (-1)) - 1))) * (b_i2l (f1 58 (top + (-1))))), (bop (f 16 k) (f1 58 ((top + (-1)) - 1)) (f1 58 (top + (-1)))), ts2, f1, rfl, rfl, rfl, rfl, ?_, ?_, ?_, ?_⟩))
              · omega
              · omega
              · rw [show f 16 k = -12 by assumption]; exact ⟨l_mul hA9 hB9, (mul_le2 hA9.1 hA9.2 hB9.1 hB9.2).1⟩
              · exact hnx
              · omega
            · refine ⟨fun (hh_5 : f 16 k = (-13)) => ?_, fun (hh_5 : ¬ f 16 k = (-13)) => ?_⟩
              · refine ⟨fun (hh_6 : 0 < (lg_cmp (b_i2l (f1 58 (top + (-1)))) (Int64.ofInt 0)).toInt) => ?_, fun (hh_6 : ¬ 0 < (lg_cmp (b_i2l (f1 58 (top + (-1)))) (Int64.ofInt 0)).toInt) => ?_⟩
                · refine ⟨show ¬ (b_i2l (f1 58 (top + (-1)))) = 0 from by exact l_ne (by assumption), ?_⟩
                  refine hF (to - k : Int).toNat ?_ (Or.inr (⟨rfl, (top + (-1)), k, f 16 k, (b_i2l (f1 58 ((top + (-1)) - 1))), (b_i2l (f1 58 (top + (-1)))), ((b_i2l (f1 58 ((top + (-1)) - 1))) / (b_i2l (f1 58 (top + (-1))))), (bop (f 16 k) (f1 58 ((top + (-1)) - 1)) (f1 58 (top + (-1)))), ts2, f1, rfl, rfl, rfl, rfl, ?_, ?_, ?_, ?_⟩))
                  · omega
                  · omega
                  · have hBp : 0 < (f1 58 (top + (-1))) := by have := lcmp_gt.mp ‹0 < (lg_cmp _ _).toInt›; rw [i2l_i hB9] at this; exact this
                    have e : bop (f 16 k) (f1 58 ((top + (-1)) - 1)) (f1 58 (top + (-1))) = (f1 58 ((top + (-1)) - 1)) / (f1 58 (top + (-1))) := by unfold bop; rw [if_neg (by omega), if_neg (by omega), if_pos ⟨by assumption, hBp⟩]
                    rw [e]; exact ⟨l_div hA9 ⟨hBp, hB9.2⟩, Int.ediv_nonneg hA9.1 (by omega)⟩
                  · exact hnx
                  · omega
                · refine hF (to - k : Int).toNat ?_ (Or.inr (⟨rfl, (top + (-1)), k, f 16 k, (b_i2l (f1 58 ((top + (-1)) - 1))), (b_i2l (f1 58 (top + (-1)))), (b_i2l (f1 58 ((top + (-1)) - 1))), (bop (f 16 k) (f1 58 ((top + (-1)) - 1)) (f1 58 (top + (-1)))), ts2, f1, rfl, rfl, rfl, rfl, ?_, ?_, ?_, ?_⟩))
                  · omega
                  · omega
                  · have e : bop (f 16 k) (f1 58 ((top + (-1)) - 1)) (f1 58 (top + (-1))) = (f1 58 ((top + (-1)) - 1)) := by
                      unfold bop
                      rw [if_neg (by omega), if_neg (by omega)]
                      first | rw [if_neg (fun h => by omega)] | rw [if_neg (fun h => by have h9 := h.2; rw [← i2l_i hB9] at h9; exact absurd ((lcmp_gt (x := b_i2l (f1 58 (top + (-1)))) (y := Int64.ofInt 0)).mpr (by rw [l_ofI (by omega)]; exact h9)) (by assumption))]
                    rw [e]; exact ⟨i2l_i hA9, hA9.1⟩
                  · exact hnx
                  · omega
              · refine hF (to - k : Int).toNat ?_ (Or.inr (⟨rfl, (top + (-1)), k, f 16 k, (b_i2l (f1 58 ((top + (-1)) - 1))), (b_i2l (f1 58 (top + (-1)))), (b_i2l (f1 58 ((top + (-1)) - 1))), (bop (f 16 k) (f1 58 ((top + (-1)) - 1)) (f1 58 (top + (-1)))), ts2, f1, rfl, rfl, rfl, rfl, ?_, ?_, ?_, ?_⟩))
                · omega
                · omega
                · have e : bop (f 16 k) (f1 58 ((top + (-1)) - 1)) (f1 58 (top + (-1))) = (f1 58 ((top + (-1)) - 1)) := by
                    unfold bop
                    rw [if_neg (by omega), if_neg (by omega)]
                    first | rw [if_neg (fun h => by omega)] | rw [if_neg (fun h => by have h9 := h.2; rw [← i2l_i hB9] at h9; exact absurd ((lcmp_gt (x := b_i2l (f1 58 (top + (-1)))) (y := Int64.ofInt 0)).mpr (by rw [l_ofI (by omega)]; exact h9)) (by assumption))]
                  rw [e]; exact ⟨i2l_i hA9, hA9.1⟩
                · exact hnx
                · omega
        · obtain ⟨htA, htB, hnx⟩ := mrs_num hbd hr (by omega) ht (by omega)
          refine ⟨fun _ => ?_, fun h => absurd (show top < 64 from by omega) h⟩
          refine ⟨fun (hh_7 : f 16 k < 0) => ?_, fun (hh_7 : ¬ f 16 k < 0) => ?_⟩
          · refine Or.inl ⟨show inr ((-1) - (f 16 k)) from by constructor <;> omega, ?_⟩
            refine ⟨show 0 ≤ (((-1) - (f 16 k)) : Int) ∧ ((-1) - (f 16 k)) < 9 from by omega, ?_⟩
            refine ⟨show 0 ≤ (top : Int) ∧ top < 64 from by omega, ?_⟩
            refine ⟨show inr (top + 1) from by constructor <;> omega, ?_⟩
            refine ⟨show inr (k + 1) from by constructor <;> omega, ?_⟩
            obtain ⟨bs2, hmr2⟩ := hnx ((wv f1 58 top (f 57 ((-1) - (f 16 k)))) 58) (by first | (rw [if_pos (by omega)]; exact wv_s) | (rw [if_neg (by omega)]; exact wv_s)) (fun j q0 q1 => wv_k (by omega))
            refine hB (to - (k + 1) : Int).toNat ?_ (Or.inl ⟨rfl, (top + 1), (k + 1), bs2, ts2, (wv f1 58 top (f 57 ((-1) - (f 16 k)))), rfl, rfl, (mx_wv rfl rfl), rfl, ?_, ?_⟩)
            · omega
            · exact hmr2
            · omega
          · refine ⟨show 0 ≤ (top : Int) ∧ top < 64 from by omega, ?_⟩
            refine ⟨show inr (top + 1) from by constructor <;> omega, ?_⟩
            refine ⟨show inr (k + 1) from by constructor <;> omega, ?_⟩
            obtain ⟨bs2, hmr2⟩ := hnx ((wv f1 58 top (f 16 k)) 58) (by first | (rw [if_pos (by omega)]; exact wv_s) | (rw [if_neg (by omega)]; exact wv_s)) (fun j q0 q1 => wv_k (by omega))
            refine hB (to - (k + 1) : Int).toNat ?_ (Or.inl ⟨rfl, (top + 1), (k + 1), bs2, ts2, (wv f1 58 top (f 16 k)), rfl, rfl, (mx_wv rfl rfl), rfl, ?_, ?_⟩)
            · omega
            · exact hmr2
            · omega
      · obtain ⟨hend1, hend2, hend3⟩ := mrs_end hbd hr (by omega) ht2 hw
        refine ⟨fun _ => ?_, fun h => absurd (show 0 < top from by omega) h⟩
        refine ⟨show 0 ≤ (0 : Int) ∧ 0 < 64 from by decide, ?_⟩
        exact k0 ((min 99 (f1 58 0))) f1 (by omega) (fun fa hfa => by have := hend3 fa hfa; have q := clp_r (hdv (ev fa (sl (f 16) fr to) [])); unfold clp at q ⊢; (repeat' split) <;> omega)
    · obtain ⟨rfl, top, k, op, a64, b64, mj, bm, ts2, f1, rfl, rfl, rfl, rfl, hk, hmj, hnx, hm⟩ := hI
      refine ⟨fun (hh_8 : 0 < (lg_cmp mj (Int64.ofInt 1000000)).toInt) => ?_, fun (hh_8 : ¬ 0 < (lg_cmp mj (Int64.ofInt 1000000)).toInt) => ?_⟩
      · have hgt := lcmp_gt.mp hh_8
        rw [l_ofI (by omega)] at hgt
        exact k0 99 f1 (by decide) (fun fa _ => (clp_r _).2)
      · have hle : mj.toInt ≤ 1000000 := by
          by_cases e : mj.toInt ≤ 1000000
          · exact e
          · exact absurd (lcmp_gt.mpr (by rw [l_ofI (by omega)]; omega)) hh_8
        refine Or.inl ⟨show inr (top - 1) from by constructor <;> omega, ?_⟩
        refine ⟨show 0 ≤ ((top - 1) : Int) ∧ (top - 1) < 64 from by omega, ?_⟩
        refine ⟨show inr (k + 1) from by constructor <;> omega, ?_⟩
        obtain ⟨bs2, hmr2⟩ := hnx ((wv f1 58 (top - 1) (b_l2i mj)) 58) (by omega) (by show wv f1 58 _ _ 58 _ = _; rw [wv_s, l2i_i (by omega)]; exact hmj.1) (fun j q0 q1 => wv_k (by omega))
        refine hB (to - (k + 1) : Int).toNat ?_ (Or.inl ⟨rfl, top, (k + 1), bs2, ts2, (wv f1 58 (top - 1) (b_l2i mj)), rfl, rfl, (mx_wv rfl rfl), rfl, ?_, ?_⟩)
        · omega
        · exact hmr2
        · omega
  · obtain ⟨tw, ht2, hw⟩ := hw
    refine hF (to - (max fr 0) : Int).toNat ?_ (Or.inl ⟨rfl, 0, (max fr 0), [], [], f, rfl, rfl, mx_rf, rfl, ?_, ?_⟩)
    · omega
    · rw [show max fr 0 = fr by omega]; exact mrs_0 (by omega)
    · omega
set_option maxRecDepth 100000 in
set_option maxHeartbeats 4000000 in
theorem k_lmost (hd : 2 ≤ d) (hl : (lC f)) (hbd : ∀ q, 0 ≤ q → q ≤ 8 → 0 ≤ (f 57 q) ∧ (f 57 q) ≤ 9999) (k0 : ∀ r : Int, ∀ f1 : iF, (0 ≤ r ∧ r ≤ 99) → (∀ fa, bnd fa (f 57) → payM fa (lwC f) ≤ r) → Q (some (iI r)) (mx [58] f f1) g) : wq d 119 [iR 15, iR 57, iR 58] f g Q := by
  obtain ⟨d, rfl⟩ : ∃ e, d = e + 1 := ⟨d - 1, by omega⟩
  refine i_meth [(4, 5)] (fun n j lv st f' g' => (j = 4 ∧ ∃ (mo : Int) (l : Int) (f1 : iF), lv = [some (iR 15), some (iR 57), some (iR 58), some (iI mo), some (iI l)] ∧ st = [] ∧ f' = (mx [58] f f1) ∧ g = g' ∧ (0 ≤ l ∧ l ≤ f (fv 15 4) 0 ∧ 0 ≤ mo ∧ mo ≤ 99) ∧ (∀ fa, bnd fa (f 57) → payM fa (lwC f) ≤ mo ∨ payM fa (mkl (lnC f) (f (fv 15 4) 0 - l).toNat l) = payM fa (lwC f)) ∧ (n : Int) = f (fv 15 4) 0 - l)) 20 (by omega) rfl rfl (fun n j lv st f' g' hn hI O J hO hF hB => ?_) (fun hvs hin O J hO hF => ?_)
  · obtain ⟨rfl, mo, l, f1, rfl, rfl, rfl, rfl, hl2, hp, hm⟩ := hI
    have hl1 := hl.1
    refine ⟨fun (hh_1 : l < f (fv 15 4) 0) => ?_, fun (hh_1 : ¬ l < f (fv 15 4) 0) => ?_⟩
    · have hln := hl.2 l (by omega) (by omega)
      refine ⟨fun _ => ?_, fun h => absurd (show l < 16 from by omega) h⟩
      refine ⟨show 0 ≤ (l : Int) ∧ l < 17 from by omega, ?_⟩
      refine ⟨show 0 ≤ (l : Int) ∧ l < 16 from by omega, ?_⟩
      refine hO (k_mostSum (by omega) (show 0 ≤ (f 17 l) ∧ (f 17 l) < (f 18 l) ∧ (f 18 l) ≤ 400 from by omega) (show ∃ t, t ≤ 2 ∧ tyl (sl (f 16) (f 17 l) (f 18 l)) [] = some [t] from hln.2.2.2.2.1) (show ∀ q, 0 ≤ q → q ≤ 8 → 0 ≤ (f 57 q) ∧ (f 57 q) ≤ 9999 from hbd) (fun r_2 f1_3 (hh_4 : 0 ≤ r_2 ∧ r_2 ≤ 99) (hh_5 : ∀ fa, bnd fa (f 57) → clp (hdv (ev fa (sl (f 16) (f 17 l) (f 18 l)) [])) ≤ r_2) => ?_))
      have hrr := hh_4
      have hms := hh_5
      refine hO (k_isBare (by omega) (show 0 ≤ l from by omega) (show l < 16 from by omega) (fun (hh_6 : (f 17 (l + 1)) ≤ (f 18 l)) => ?_) (fun (hh_7 : (f 18 l) < (f 17 (l + 1))) => ?_))
      · refine ⟨fun h => absurd (show (1 : Int) = 0 from h) (by decide), fun _ => ?_⟩
        have hk := k0 ((max mo r_2)) (mx [58] f1 f1_3) (by omega) (fun fa hfa => by
          rcases hp fa hfa with q | q
          · omega
          · rw [show (f (fv 15 4) 0 - l).toNat = (f (fv 15 4) 0 - (l + 1)).toNat + 1 by omega, mkl, payM, if_pos (show (lnC f l).2 = [] ∨ _ from Or.inl (sl_nil (by omega)))] at q
            have h9 : clp (hdv (ev fa (lnC f l).1 [])) ≤ _ := hms fa hfa
            omega)
        rw [show mx [58] f (mx [58] f1 f1_3) = (mx [58] (mx [58] f f1) f1_3) from ((mx_mx rfl rfl)).symm] at hk
        exact hk
      · refine ⟨fun _ => ?_, fun h => absurd (show (0 : Int) = 0 from by decide) h⟩
        refine ⟨show inr (l + 1) from by constructor <;> omega, ?_⟩
        refine hB (f (fv 15 4) 0 - (l + 1) : Int).toNat ?_ ⟨rfl, (max mo r_2), (l + 1), (mx [58] f1 f1_3), rfl, rfl, (mx_mx rfl rfl), rfl, ?_, ?_, ?_⟩
        · omega
        · omega
        · intro fa hfa
          rcases hp fa hfa with q | q
          · left; omega
          · rw [show (f (fv 15 4) 0 - l).toNat = (f (fv 15 4) 0 - (l + 1)).toNat + 1 by omega, mkl, payM] at q
            by_cases e : (lnC f l).2 = [] ∨ ¬ hdv (ev fa (lnC f l).2 []) = 0
            · rw [if_pos e] at q
              left
              have h9 : clp (hdv (ev fa (lnC f l).1 [])) ≤ _ := hms fa hfa
              omega
            · rw [if_neg e] at q
              exact Or.inr q
        · omega
    · have hk := k0 ((max mo 1)) f1 (by omega) (fun fa hfa => by
        rcases hp fa hfa with q | q
        · omega
        · rw [show (f (fv 15 4) 0 - l).toNat = 0 by omega] at q
          have : payM fa (mkl (lnC f) 0 l) = 1 := rfl
          omega)
      exact hk
  · have hl1 := hl.1
    refine hF (f (fv 15 4) 0 - 0 : Int).toNat ?_ ⟨rfl, 0, 0, f, rfl, rfl, mx_rf, rfl, ?_, ?_, ?_⟩
    · omega
    · omega
    · intro fa _; right; rw [show f (fv 15 4) 0 - 0 = f (fv 15 4) 0 by omega]; rfl
    · omega
/-- bounds of facts in a row of rl -/
def bdF (day rl : Int) : Int → Int := fun k => if k = 0 then 29 else if k = 1 then rl else if k = 2 then rl else if k = 3 then rl else if k = 4 then 1 else if k = 5 then 9 else if k = 6 then day else if k = 7 then 29 else 1
theorem nine {P : Int → Prop} (h0 : P 0) (h1 : P 1) (h2 : P 2) (h3 : P 3) (h4 : P 4) (h5 : P 5) (h6 : P 6) (h7 : P 7) (h8 : P 8) : ∀ q, 0 ≤ q → q ≤ 8 → P q := by
  intro q q0 q1
  have : q = 0 ∨ q = 1 ∨ q = 2 ∨ q = 3 ∨ q = 4 ∨ q = 5 ∨ q = 6 ∨ q = 7 ∨ q = 8 := by omega
  rcases this with e | e | e | e | e | e | e | e | e <;> subst e <;> assumption
set_option maxRecDepth 100000 in
set_option maxHeartbeats 4000000 in
theorem k_pmost {rl : Int} (hd : 3 ≤ d) (hrl : 0 ≤ rl ∧ rl ≤ 60) (hl : (lC f)) (hday : 0 ≤ (f (fv 1 15) 0) ∧ (f (fv 1 15) 0) ≤ 9999) (k0 : ∀ r : Int, ∀ f1 : iF, (0 ≤ r ∧ r ≤ 99) → (∀ fa, bnd fa (bdF (f (fv 1 15) 0) rl) → payM fa (lwC f) ≤ r) → Q (some (iI r)) (mx [57, 58] f f1) g) : wq d 145 [iR 54, iI rl] f g Q := by
  obtain ⟨d, rfl⟩ : ∃ e, d = e + 1 := ⟨d - 1, by omega⟩
  refine i_meth0 rfl rfl (fun O J hO => ?_)
  refine ⟨show 0 ≤ (0 : Int) ∧ 0 < 9 from by decide, ?_⟩
  refine ⟨show 0 ≤ (1 : Int) ∧ 1 < 9 from by decide, ?_⟩
  refine ⟨show 0 ≤ (2 : Int) ∧ 2 < 9 from by decide, ?_⟩
  refine ⟨show 0 ≤ (3 : Int) ∧ 3 < 9 from by decide, ?_⟩
  refine ⟨show 0 ≤ (4 : Int) ∧ 4 < 9 from by decide, ?_⟩
  refine ⟨show 0 ≤ (5 : Int) ∧ 5 < 9 from by decide, ?_⟩
  refine ⟨show 0 ≤ (6 : Int) ∧ 6 < 9 from by decide, ?_⟩
  refine ⟨show 0 ≤ (7 : Int) ∧ 7 < 9 from by decide, ?_⟩
  refine ⟨show 0 ≤ (8 : Int) ∧ 8 < 9 from by decide, ?_⟩
  have hF57 : ∀ q, 0 ≤ q → q ≤ 8 → ((wv (wv (wv (wv (wv (wv (wv (wv (wv f 57 0 29) 57 1 rl) 57 2 rl) 57 3 rl) 57 4 1) 57 5 9) 57 6 (f (fv 1 15) 0)) 57 7 29) 57 8 1) 57) q = bdF (f (fv 1 15) 0) rl q := nine rfl rfl rfl rfl rfl rfl rfl rfl rfl
  refine hO (k_lmost (by omega) (show (lC f) from hl) (show ∀ q, 0 ≤ q → q ≤ 8 → 0 ≤ ((wv (wv (wv (wv (wv (wv (wv (wv (wv f 57 0 29) 57 1 rl) 57 2 rl) 57 3 rl) 57 4 1) 57 5 9) 57 6 (f (fv 1 15) 0)) 57 7 29) 57 8 1) 57 q) ∧ ((wv (wv (wv (wv (wv (wv (wv (wv (wv f 57 0 29) 57 1 rl) 57 2 rl) 57 3 rl) 57 4 1) 57 5 9) 57 6 (f (fv 1 15) 0)) 57 7 29) 57 8 1) 57 q) ≤ 9999 from fun q q0 q1 => by rw [hF57 q q0 q1]; unfold bdF; (repeat' split) <;> omega) (fun r_1 f1_2 (hh_3 : 0 ≤ r_1 ∧ r_1 ≤ 99) (hh_4 : ∀ fa, bnd fa ((wv (wv (wv (wv (wv (wv (wv (wv (wv f 57 0 29) 57 1 rl) 57 2 rl) 57 3 rl) 57 4 1) 57 5 9) 57 6 (f (fv 1 15) 0)) 57 7 29) 57 8 1) 57) → payM fa (lwC f) ≤ r_1) => ?_))
  have hrr := hh_3
  have hms := hh_4
  have hk := k0 (r_1) (mx [58] (wv (wv (wv (wv (wv (wv (wv (wv (wv f 57 0 29) 57 1 rl) 57 2 rl) 57 3 rl) 57 4 1) 57 5 9) 57 6 (f (fv 1 15) 0)) 57 7 29) 57 8 1) f1_2) hrr (fun fa hfa => hms fa (fun q q0 q1 => by rw [hF57 q q0 q1]; exact hfa q q0 q1))
  rw [show mx [57, 58] f (mx [58] (wv (wv (wv (wv (wv (wv (wv (wv (wv f 57 0 29) 57 1 rl) 57 2 rl) 57 3 rl) 57 4 1) 57 5 9) 57 6 (f (fv 1 15) 0)) 57 7 29) 57 8 1) f1_2) = (mx [58] (wv (wv (wv (wv (wv (wv (wv (wv (wv f 57 0 29) 57 1 rl) 57 2 rl) 57 3 rl) 57 4 1) 57 5 9) 57 6 (f (fv 1 15) 0)) 57 7 29) 57 8 1) f1_2) from ((mx_mx rfl (mx_wv rfl (mx_wv rfl (mx_wv rfl (mx_wv rfl (mx_wv rfl (mx_wv rfl (mx_wv rfl (mx_wv rfl (mx_wv rfl mx_rf))))))))))).symm] at hk
  exact hk
end C32
