section C22
variable {d : Nat} {f : iF} {g : iG} {Q : Option iv → iF → iG → Prop}
/-! ===== the reference: buy ===== -/
theorem kRef_c {cnt a b c : Int} (h : cok cnt a b c) : 0 ≤ a ∧ a < cnt ∧ ((b = -1 ∧ c = -1 ∧ kRef a b c = 10000 + a * 441) ∨ (a < b ∧ b < cnt ∧ c = -1 ∧ kRef a b c = 20000 + a * 441 + (b + 1) * 21) ∨ (a < b ∧ b < c ∧ c < cnt ∧ kRef a b c = 30000 + a * 441 + (b + 1) * 21 + (c + 1))) := by
  obtain ⟨h0, h1, h2⟩ := h
  refine ⟨h0, h1, ?_⟩
  rcases h2 with ⟨rfl, rfl⟩ | ⟨h2, h3, h4⟩
  · refine Or.inl ⟨rfl, rfl, ?_⟩
    unfold kRef szc odc
    rw [if_pos rfl]; omega
  · rcases h4 with rfl | ⟨h4, h5⟩
    · refine Or.inr (Or.inl ⟨h2, h3, rfl, ?_⟩)
      unfold kRef szc odc
      rw [if_neg (by omega), if_pos rfl]; omega
    · refine Or.inr (Or.inr ⟨h2, h4, h5, ?_⟩)
      unfold kRef szc odc
      rw [if_neg (by omega), if_neg (by omega)]; omega
theorem byR_step {V : Int → Int → Int → Int} {cnt k mo x y z a b c : Int} (hcn : cnt ≤ 20) (h : byI V cnt kRef k mo x y z) (hV : ∀ a b c, cok cnt a b c → 0 ≤ V a b c) (hc : cok cnt a b c) (hK : kRef a b c = k) : (mo < V a b c → byI V cnt kRef (k + 1) (V a b c) a b c) ∧ (¬ mo < V a b c → byI V cnt kRef (k + 1) mo x y z) := by
  have hi := kRef_inj (a := 0) (b := 0) (c := 0) hcn hc
  rw [hK] at hi
  refine ⟨fun hm => byI_new h hV hc hK hi (Or.inl hm), fun hm => byI_old h hV hc hK hi ?_⟩
  have hv := hV a b c hc
  rcases h with ⟨h1, h2⟩ | ⟨h1, h2, h3, h4⟩
  · omega
  · have b1 := cok_r hcn hc
    have b2 := cok_r hcn h1
    have e1 : 0 ≤ odc a b c ∧ odc a b c < 10000 := by unfold odc; omega
    have e2 : 0 ≤ odc x y z ∧ odc x y z < 10000 := by unfold odc; omega
    unfold kRef at h3 hK
    omega
theorem byI_end {V : Int → Int → Int → Int} {cnt k mo x y z : Int} {K : Int → Int → Int → Int} (h : byI V cnt K k mo x y z) (h0 : 1 ≤ cnt) (hk : ∀ a b c, cok cnt a b c → K a b c < k) : BuyP V cnt (an5 mo x y z 0) := by
  rcases h with ⟨h1, h2⟩ | ⟨h1, h2, h3, h4⟩
  · have hc : cok cnt 0 (-1) (-1) := ⟨by omega, by omega, Or.inl ⟨rfl, rfl⟩⟩
    have := h2 _ _ _ hc
    have := hk _ _ _ hc
    omega
  · exact ⟨h1, h2, fun a b c hc => h4 a b c hc (hk a b c hc)⟩
theorem row1 {L W r : Int → Int} {x : Int} (h : ∀ p, 0 ≤ p → p < L x → r p = W (12 * x + p)) : ln3 L x (-1) (-1) = L x ∧ ∀ k, 0 ≤ k → k < L x → r k = rw3 L W x (-1) (-1) k := by
  refine ⟨by unfold ln3; rw [if_pos rfl]; omega, fun k h0 h1 => ?_⟩
  unfold rw3
  rw [if_pos h1]
  exact h k h0 h1
theorem row2 {L W r r' : Int → Int} {x y : Int} (hy : ¬ y = -1) (h : ∀ p, 0 ≤ p → p < L x → r' p = W (12 * x + p)) (h29 : r (L x) = 29) (hb : ∀ p, 0 ≤ p → p < L y → r (L x + 1 + p) = W (12 * y + p)) (hj : ∀ k, 0 ≤ k → k < L x → r k = r' k) : ln3 L x y (-1) = L x + 1 + L y ∧ ∀ k, 0 ≤ k → k < L x + 1 + L y → r k = rw3 L W x y (-1) k := by
  refine ⟨by unfold ln3; rw [if_neg hy, if_pos rfl]; omega, fun k h0 h1 => ?_⟩
  unfold rw3
  by_cases e : k < L x
  · rw [if_pos e, hj k h0 e, h k h0 e]
  · rw [if_neg e]
    by_cases e2 : k = L x
    · rw [if_pos e2, e2, h29]
    · rw [if_neg e2, if_pos h1, ← hb (k - (L x + 1)) (by omega) (by omega), show L x + 1 + (k - (L x + 1)) = k by omega]
theorem row3 {L W r r' r2 : Int → Int} {x y z : Int} (hy : ¬ y = -1) (hz : ¬ z = -1) (h : ∀ p, 0 ≤ p → p < L x → r' p = W (12 * x + p)) (h29 : r2 (L x) = 29) (hb : ∀ p, 0 ≤ p → p < L y → r2 (L x + 1 + p) = W (12 * y + p)) (hj : ∀ k, 0 ≤ k → k < L x → r2 k = r' k) (hy0 : 0 ≤ L x ∧ 0 ≤ L y) (g29 : r (L x + 1 + L y) = 29) (gb : ∀ p, 0 ≤ p → p < L z → r (L x + 1 + L y + 1 + p) = W (12 * z + p)) (gj : ∀ k, 0 ≤ k → k < L x + 1 + L y → r k = r2 k) : ln3 L x y z = L x + 1 + L y + 1 + L z ∧ ∀ k, 0 ≤ k → k < L x + 1 + L y + 1 + L z → r k = rw3 L W x y z k := by
  have h2 := (row2 (W := W) hy h h29 hb hj).2
  refine ⟨by unfold ln3; rw [if_neg hy, if_neg hz]; omega, fun k h0 h1 => ?_⟩
  by_cases e : k < L x + 1 + L y
  · rw [gj k h0 e, h2 k h0 e]
    unfold rw3
    by_cases e1 : k < L x
    · rw [if_pos e1, if_pos e1]
    · rw [if_neg e1, if_neg e1]
      by_cases e2 : k = L x
      · rw [if_pos e2, if_pos e2]
      · rw [if_neg e2, if_neg e2, if_pos e, if_pos e]
  · unfold rw3
    by_cases e2 : k = L x + 1 + L y
    · by_cases e4 : k < L x
      · omega
      · by_cases e5 : k = L x
        · rw [if_neg e4, if_pos e5, e2, g29]
        · rw [if_neg e4, if_neg e5, if_neg e, if_pos e2, e2, g29]
    · by_cases e4 : k < L x
      · omega
      · by_cases e5 : k = L x
        · omega
        · rw [if_neg e4, if_neg e5, if_neg e, if_neg e2, ← gb (k - (L x + 1 + L y + 1)) (by omega) (by omega), show L x + 1 + L y + 1 + (k - (L x + 1 + L y + 1)) = k by omega]
/-- the words of a list -/
def wlB (L W : Int → Int) (cnt : Int) : Prop := (0 ≤ cnt ∧ cnt ≤ 20) ∧ ∀ w, 0 ≤ w → w < cnt → 1 ≤ L w ∧ L w ≤ 12 ∧ ∀ j, 0 ≤ j → j < L w → 0 ≤ W (12 * w + j) ∧ W (12 * w + j) ≤ 25
theorem rw3_r {L W : Int → Int} {cnt x y z k : Int} (hw : wlB L W cnt) (hc : cok cnt x y z) (h0 : 0 ≤ k) (h1 : k < ln3 L x y z) : 0 ≤ rw3 L W x y z k ∧ rw3 L W x y z k ≤ 29 := by
  obtain ⟨c0, c1, c2⟩ := hc
  have hx := hw.2 x c0 c1
  unfold ln3 at h1
  unfold rw3
  by_cases e1 : k < L x
  · rw [if_pos e1]; have := hx.2.2 k h0 e1; omega
  · rw [if_neg e1]
    by_cases e2 : k = L x
    · rw [if_pos e2]; omega
    · rw [if_neg e2]
      rcases c2 with ⟨rfl, rfl⟩ | ⟨c2, c3, c4⟩
      · rw [if_pos rfl] at h1; omega
      · rw [if_neg (by omega)] at h1
        have hy := hw.2 y (by omega) c3
        by_cases e3 : k < L x + 1 + L y
        · rw [if_pos e3]; have := hy.2.2 (k - (L x + 1)) (by omega) (by omega); omega
        · rw [if_neg e3]
          by_cases e4 : k = L x + 1 + L y
          · rw [if_pos e4]; omega
          · rw [if_neg e4]
            rcases c4 with rfl | ⟨c4, c5⟩
            · rw [if_pos rfl] at h1; omega
            · rw [if_neg (by omega)] at h1
              have hz := hw.2 z (by omega) c5
              have := hz.2.2 (k - (L x + 1 + L y + 1)) (by omega) (by omega); omega
theorem ln3_r {L W : Int → Int} {cnt x y z : Int} (hw : wlB L W cnt) (hc : cok cnt x y z) : 1 ≤ ln3 L x y z ∧ ln3 L x y z ≤ 38 := by
  obtain ⟨c0, c1, c2⟩ := hc
  have hx := hw.2 x c0 c1
  unfold ln3
  rcases c2 with ⟨rfl, rfl⟩ | ⟨c2, c3, c4⟩
  · rw [if_pos rfl]; omega
  · have hy := hw.2 y (by omega) c3
    rw [if_neg (by omega)]
    rcases c4 with rfl | ⟨c4, c5⟩
    · rw [if_pos rfl]; omega
    · have hz := hw.2 z (by omega) c5
      rw [if_neg (by omega)]; omega
theorem vB_r {ab : Int → Bool} {ow : Int → Int} {day : Int} {w : Lw} {L W : Int → Int} {cnt a x y z : Int} (hw : wlB L W cnt) (hc : cok cnt x y z) : 0 ≤ vB ab ow day w L W a x y z ∧ vB ab ow day w L W a x y z ≤ 5940 := enI_r (by have := ln3_r hw hc; omega)
theorem rwB_w {F : iF} {L W : Int → Int} {cnt x y z : Int} (hw : wlB L W cnt) (hc : cok cnt x y z) (hn : F (fv 79 15) 0 = ln3 L x y z) (hr : ∀ k, 0 ≤ k → k < ln3 L x y z → F 89 k = rw3 L W x y z k) : rwB F := ⟨by rw [hn]; have := ln3_r hw hc; omega, fun k h0 h1 => by
  rw [hn] at h1
  rw [hr k h0 h1]
  exact rw3_r hw hc h0 h1⟩
set_option maxRecDepth 100000 in
set_option maxHeartbeats 4000000 in
theorem c_adds {x : Int} (hd : 1 ≤ d) (hx : 0 ≤ x ∧ x < 20) (hL : 1 ≤ (f 90 x) ∧ (f 90 x) ≤ 12) (hn : 0 ≤ (f (fv 79 15) 0) ∧ (f (fv 79 15) 0) ≤ 47) (k0 : ∀ f1 : iF, ((f (fv 79 15) 0) = 0) → (f1 (fv 79 15) 0 = (f 90 x)) → (∀ q, 0 ≤ q → q < (f 90 x) → f1 89 q = (f 91 (12 * x + q))) → Q none (mx [89, fv 79 15] f f1) g) (k1 : ∀ f1 : iF, (0 < (f (fv 79 15) 0)) → (f1 (fv 79 15) 0 = (f (fv 79 15) 0) + 1 + (f 90 x)) → (f1 89 (f (fv 79 15) 0) = 29) → (∀ q, 0 ≤ q → q < (f 90 x) → f1 89 ((f (fv 79 15) 0) + 1 + q) = (f 91 (12 * x + q))) → (∀ k, 0 ≤ k → k < (f (fv 79 15) 0) → f1 89 k = (f 89 k)) → Q none (mx [89, fv 79 15] f f1) g) : wq d 68 [iR 79, iI x] f g Q := by
  obtain ⟨d, rfl⟩ : ∃ e, d = e + 1 := ⟨d - 1, by omega⟩
  refine i_meth [(17, 3)] (fun n j lv st f' g' => (j = 17 ∧ ∃ (i : Int) (b0 : Int) (f1 : iF), lv = [some (iR 79), some (iI x), some (iI i)] ∧ st = [] ∧ f' = (mx [89, fv 79 15] f f1) ∧ g = g' ∧ (0 ≤ i ∧ i ≤ f 90 x) ∧ ((f (fv 79 15) 0 = 0 ∧ b0 = 0) ∨ (0 < f (fv 79 15) 0 ∧ b0 = f (fv 79 15) 0 + 1 ∧ f1 89 (f (fv 79 15) 0) = 29)) ∧ (f1 (fv 79 15) 0 = b0 + i) ∧ (∀ q, 0 ≤ q → q < i → f1 89 (b0 + q) = f 91 (12 * x + q)) ∧ (∀ k, 0 ≤ k → k < f (fv 79 15) 0 → f1 89 k = f 89 k) ∧ (n : Int) = f 90 x - i)) 12 (by omega) rfl rfl (fun n j lv st f' g' hn hI O J hO hF hB => ?_) (fun hvs hin O J hO hF => ?_)
  · obtain ⟨rfl, i, b0, f1, rfl, rfl, rfl, rfl, hi, hs, hm1, hz, hj, hm⟩ := hI
    have hb0 : 0 ≤ b0 ∧ b0 ≤ 48 := by rcases hs with q | q <;> omega
    refine ⟨show 0 ≤ (x : Int) ∧ x < 20 from by omega, ?_⟩
    refine ⟨fun (hh_1 : i < f 90 x) => ?_, fun (hh_1 : ¬ i < f 90 x) => ?_⟩
    · refine Or.inl ⟨show inr (12 * x) from by constructor <;> omega, ?_⟩
      refine Or.inl ⟨show inr ((12 * x) + i) from by constructor <;> omega, ?_⟩
      refine ⟨show 0 ≤ (((12 * x) + i) : Int) ∧ ((12 * x) + i) < 240 from by omega, ?_⟩
      refine ⟨show 0 ≤ (f1 (fv 79 15) 0 : Int) ∧ f1 (fv 79 15) 0 < 60 from by omega, ?_⟩
      refine Or.inl ⟨show inr ((f1 (fv 79 15) 0) + 1) from by constructor <;> omega, ?_⟩
      refine ⟨show inr (i + 1) from by constructor <;> omega, ?_⟩
      refine hB (f 90 x - (i + 1) : Int).toNat ?_ ⟨rfl, (i + 1), b0, (wv (wv f1 89 (f1 (fv 79 15) 0) (f 91 ((12 * x) + i))) (fv 79 15) 0 ((f1 (fv 79 15) 0) + 1)), rfl, rfl, (mx_wv rfl (mx_wv rfl rfl)), rfl, ?_, ?_, ?_, ?_, ?_, ?_⟩
      · omega
      · omega
      · rcases hs with q | q
        · exact Or.inl q
        · refine Or.inr ⟨q.1, q.2.1, ?_⟩
          show wv f1 89 (f1 (fv 79 15) 0) (f 91 (12 * x + i)) 89 (f (fv 79 15) 0) = 29
          rw [wv_k (by omega)]; exact q.2.2
      · show f1 (fv 79 15) 0 + 1 = _; omega
      · intro q h0 h1
        show wv f1 89 (f1 (fv 79 15) 0) (f 91 (12 * x + i)) 89 (b0 + q) = _
        rw [wv_i]
        by_cases e : q = i
        · rw [if_pos (by omega), e]
        · rw [if_neg (by omega)]; exact hz q h0 (by omega)
      · intro k h0 h1
        show wv f1 89 (f1 (fv 79 15) 0) (f 91 (12 * x + i)) 89 k = _
        rw [wv_k (by rcases hs with q | q <;> omega)]; exact hj k h0 h1
      · omega
    · have hiL : i = f 90 x := by omega
      rw [hiL] at hz hm1
      rcases hs with ⟨q1, q2⟩ | ⟨q1, q2, q3⟩
      · exact k0 f1 q1 (by rw [hm1, q2]; omega) (fun q h0 h1 => by have := hz q h0 h1; rw [q2, Int.zero_add] at this; exact this)
      · exact k1 f1 q1 (by rw [hm1, q2]) q3 (fun q h0 h1 => by have := hz q h0 h1; rw [q2] at this; exact this) hj
  · refine ⟨fun (hh_2 : 0 < f (fv 79 15) 0) => ?_, fun (hh_2 : ¬ 0 < f (fv 79 15) 0) => ?_⟩
    · refine ⟨show 0 ≤ (f (fv 79 15) 0 : Int) ∧ f (fv 79 15) 0 < 60 from by omega, ?_⟩
      refine Or.inl ⟨show inr ((f (fv 79 15) 0) + 1) from by constructor <;> omega, ?_⟩
      refine hF (f 90 x - 0 : Int).toNat ?_ ⟨rfl, 0, (f (fv 79 15) 0 + 1), (wv (wv f 89 (f (fv 79 15) 0) 29) (fv 79 15) 0 ((f (fv 79 15) 0) + 1)), rfl, rfl, (mx_wv rfl (mx_wv rfl mx_rf)), rfl, ?_, ?_, ?_, ?_, ?_, ?_⟩
      · omega
      · omega
      · first | exact Or.inr ⟨by assumption, rfl, wv_s⟩ | exact Or.inl ⟨by omega, rfl⟩
      · first | exact (Int.add_zero _).symm | (show f (fv 79 15) 0 = 0 + 0; omega)
      · intro q h0 h1; omega
      · intro k h0 h1
        first | rfl | (show wv f 89 _ 29 89 k = _; rw [wv_k (by omega)])
      · omega
    · refine hF (f 90 x - 0 : Int).toNat ?_ ⟨rfl, 0, 0, f, rfl, rfl, mx_rf, rfl, ?_, ?_, ?_, ?_, ?_, ?_⟩
      · omega
      · omega
      · first | exact Or.inr ⟨by assumption, rfl, wv_s⟩ | exact Or.inl ⟨by omega, rfl⟩
      · first | exact (Int.add_zero _).symm | (show f (fv 79 15) 0 = 0 + 0; omega)
      · intro q h0 h1; omega
      · intro k h0 h1
        first | rfl | (show wv f 89 _ 29 89 k = _; rw [wv_k (by omega)])
      · omega
set_option maxRecDepth 100000 in
set_option maxHeartbeats 4000000 in
theorem c_earnsBy {a x y z : Int} (hd : 6 ≤ d) (hc : cok (f (fv 79 17) 0) x y z) (ha : 0 ≤ a ∧ a < 8) (hwl : wlB (f 90) (f 91) (f (fv 79 17) 0)) (ho : (oB f)) (hl : (lB f)) (hday : 0 ≤ (f (fv 79 12) 0) ∧ (f (fv 79 12) 0) ≤ 9999) (k0 : ∀ f1 : iF, Q (some (iI (vB (aR f) (oR f) (f (fv 79 12) 0) (lwR f) (f 90) (f 91) a x y z))) (mx [89, fv 79 15, 100, 101, 102] f f1) g) : wq d 69 [iR 79, iI a, iI x, iI y, iI z] f g Q := by
  obtain ⟨d, rfl⟩ : ∃ e, d = e + 1 := ⟨d - 1, by omega⟩
  refine i_meth0 rfl rfl (fun O J hO => ?_)
  have hc2 := hc
  unfold cok at hc2
  have hwx := hwl.2 x (by omega) (by omega)
  have hcnt := hwl.1
  refine hO (c_adds (by omega) (show 0 ≤ x ∧ x < 20 from by omega) (show 1 ≤ (f 90 x) ∧ (f 90 x) ≤ 12 from by omega) (show 0 ≤ (0) ∧ (0) ≤ 47 from by omega) (fun f1_1 (hh_2 : (0) = 0) (hh_3 : f1_1 (fv 79 15) 0 = (f 90 x)) (hh_4 : ∀ q, 0 ≤ q → q < (f 90 x) → f1_1 89 q = (f 91 (12 * x + q))) => ?_) (fun f1_5 (hh_6 : 0 < (0)) (hh_7 : f1_5 (fv 79 15) 0 = (0) + 1 + (f 90 x)) (hh_8 : f1_5 89 (0) = 29) (hh_9 : ∀ q, 0 ≤ q → q < (f 90 x) → f1_5 89 ((0) + 1 + q) = (f 91 (12 * x + q))) (hh_10 : ∀ k, 0 ≤ k → k < (0) → f1_5 89 k = (f 89 k)) => ?_))
  · have hA1 := hh_3
    have hA2 := hh_4
    refine ⟨fun (hh_11 : y = (-1)) => ?_, fun (hh_11 : ¬ y = (-1)) => ?_⟩
    · refine ⟨fun _ => ?_, fun h => absurd (show z = (-1) from by omega) h⟩
      have hyz : y = -1 ∧ z = -1 := by omega
      have hrr := row1 hA2
      obtain ⟨hy1, hz1⟩ := hyz
      have hN : f1_1 (fv 79 15) 0 = ln3 (f 90) x y z := by rw [hy1, hz1]; exact hA1.trans hrr.1.symm
      have hR : ∀ k, 0 ≤ k → k < ln3 (f 90) x y z → (f1_1 89) k = rw3 (f 90) (f 91) x y z k := by rw [hy1, hz1]; intro k h0 h1; exact hrr.2 k h0 (by rw [← hrr.1]; exact h1)
      refine hO (c_finds (by omega) (show (rwB (mx [89, fv 79 15] (wv f (fv 79 15) 0 0) f1_1)) from rwB_w hwl hc hN hR) (show (oB f) from ho) (show (lB f) from hl) (show 0 ≤ (f (fv 79 12) 0) ∧ (f (fv 79 12) 0) ≤ 9999 from hday) (fun f1_12 (hh_13 : ∀ a, 0 ≤ a → a < 8 → f1_12 102 a = enI (aR f) (oR f) (f (fv 79 12) 0) (lwR f) (f1_1 89) (f1_1 (fv 79 15) 0) a) => ?_))
      have hea := hh_13
      refine ⟨show 0 ≤ (a : Int) ∧ a < 8 from by omega, ?_⟩
      have hev := hea a ha.1 ha.2
      rw [hN, enI_cg hR] at hev
      unfold vB at k0
      rw [← hev] at k0
      have hk := k0 (mx [100, 101, 102] (mx [89, fv 79 15] (wv f (fv 79 15) 0 0) f1_1) f1_12) 
      rw [show mx [89, fv 79 15, 100, 101, 102] f (mx [100, 101, 102] (mx [89, fv 79 15] (wv f (fv 79 15) 0 0) f1_1) f1_12) = (mx [100, 101, 102] (mx [89, fv 79 15] (wv f (fv 79 15) 0 0) f1_1) f1_12) from ((mx_mx rfl (mx_mx rfl (mx_wv rfl mx_rf)))).symm] at hk
      exact hk
    · have hwy := hwl.2 y (by omega) (by omega)
      refine hO (c_adds (by omega) (show 0 ≤ y ∧ y < 20 from by omega) (show 1 ≤ (f 90 y) ∧ (f 90 y) ≤ 12 from by omega) (show 0 ≤ (f1_1 (fv 79 15) 0) ∧ (f1_1 (fv 79 15) 0) ≤ 47 from by omega) (fun f1_14 (hh_15 : (f1_1 (fv 79 15) 0) = 0) (hh_16 : f1_14 (fv 79 15) 0 = (f 90 y)) (hh_17 : ∀ q, 0 ≤ q → q < (f 90 y) → f1_14 89 q = (f 91 (12 * y + q))) => ?_) (fun f1_18 (hh_19 : 0 < (f1_1 (fv 79 15) 0)) (hh_20 : f1_18 (fv 79 15) 0 = (f1_1 (fv 79 15) 0) + 1 + (f 90 y)) (hh_21 : f1_18 89 (f1_1 (fv 79 15) 0) = 29) (hh_22 : ∀ q, 0 ≤ q → q < (f 90 y) → f1_18 89 ((f1_1 (fv 79 15) 0) + 1 + q) = (f 91 (12 * y + q))) (hh_23 : ∀ k, 0 ≤ k → k < (f1_1 (fv 79 15) 0) → f1_18 89 k = (f1_1 89 k)) => ?_))
      · omega
      · have hB1 := hh_20
        have hB2 := hh_21
        have hB3 := hh_22
        have hB4 := hh_23
        rw [hA1] at hB1 hB2 hB3 hB4
        refine ⟨fun (hh_24 : z = (-1)) => ?_, fun (hh_24 : ¬ z = (-1)) => ?_⟩
        · have hz1 : z = -1 := by assumption
          have hrr := row2 (by assumption) hA2 hB2 hB3 hB4
          have hN : f1_18 (fv 79 15) 0 = ln3 (f 90) x y z := by rw [hz1]; exact hB1.trans hrr.1.symm
          have hR : ∀ k, 0 ≤ k → k < ln3 (f 90) x y z → (f1_18 89) k = rw3 (f 90) (f 91) x y z k := by rw [hz1]; intro k h0 h1; exact hrr.2 k h0 (by rw [← hrr.1]; exact h1)
          refine hO (c_finds (by omega) (show (rwB (mx [89, fv 79 15] (mx [89, fv 79 15] (wv f (fv 79 15) 0 0) f1_1) f1_18)) from rwB_w hwl hc hN hR) (show (oB f) from ho) (show (lB f) from hl) (show 0 ≤ (f (fv 79 12) 0) ∧ (f (fv 79 12) 0) ≤ 9999 from hday) (fun f1_25 (hh_26 : ∀ a, 0 ≤ a → a < 8 → f1_25 102 a = enI (aR f) (oR f) (f (fv 79 12) 0) (lwR f) (f1_18 89) (f1_18 (fv 79 15) 0) a) => ?_))
          have hea := hh_26
          refine ⟨show 0 ≤ (a : Int) ∧ a < 8 from by omega, ?_⟩
          have hev := hea a ha.1 ha.2
          rw [hN, enI_cg hR] at hev
          unfold vB at k0
          rw [← hev] at k0
          have hk := k0 (mx [100, 101, 102] (mx [89, fv 79 15] (mx [89, fv 79 15] (wv f (fv 79 15) 0 0) f1_1) f1_18) f1_25) 
          rw [show mx [89, fv 79 15, 100, 101, 102] f (mx [100, 101, 102] (mx [89, fv 79 15] (mx [89, fv 79 15] (wv f (fv 79 15) 0 0) f1_1) f1_18) f1_25) = (mx [100, 101, 102] (mx [89, fv 79 15] (mx [89, fv 79 15] (wv f (fv 79 15) 0 0) f1_1) f1_18) f1_25) from ((mx_mx rfl (mx_mx rfl (mx_mx rfl (mx_wv rfl mx_rf))))).symm] at hk
          exact hk
        · have hwz := hwl.2 z (by omega) (by omega)
          refine hO (c_adds (by omega) (show 0 ≤ z ∧ z < 20 from by omega) (show 1 ≤ (f 90 z) ∧ (f 90 z) ≤ 12 from by omega) (show 0 ≤ (f1_18 (fv 79 15) 0) ∧ (f1_18 (fv 79 15) 0) ≤ 47 from by omega) (fun f1_27 (hh_28 : (f1_18 (fv 79 15) 0) = 0) (hh_29 : f1_27 (fv 79 15) 0 = (f 90 z)) (hh_30 : ∀ q, 0 ≤ q → q < (f 90 z) → f1_27 89 q = (f 91 (12 * z + q))) => ?_) (fun f1_31 (hh_32 : 0 < (f1_18 (fv 79 15) 0)) (hh_33 : f1_31 (fv 79 15) 0 = (f1_18 (fv 79 15) 0) + 1 + (f 90 z)) (hh_34 : f1_31 89 (f1_18 (fv 79 15) 0) = 29) (hh_35 : ∀ q, 0 ≤ q → q < (f 90 z) → f1_31 89 ((f1_18 (fv 79 15) 0) + 1 + q) = (f 91 (12 * z + q))) (hh_36 : ∀ k, 0 ≤ k → k < (f1_18 (fv 79 15) 0) → f1_31 89 k = (f1_18 89 k)) => ?_))
          · omega
          · have hC1 := hh_33
            have hC2 := hh_34
            have hC3 := hh_35
            have hC4 := hh_36
            rw [hB1] at hC1 hC2 hC3 hC4
            have hrr := row3 ‹¬ y = -1› ‹¬ z = -1› hA2 hB2 hB3 hB4 (by omega) hC2 hC3 hC4
            have hN : f1_31 (fv 79 15) 0 = ln3 (f 90) x y z := hC1.trans hrr.1.symm
            have hR : ∀ k, 0 ≤ k → k < ln3 (f 90) x y z → (f1_31 89) k = rw3 (f 90) (f 91) x y z k := fun k h0 h1 => hrr.2 k h0 (by rw [← hrr.1]; exact h1)
            refine hO (c_finds (by omega) (show (rwB (mx [89, fv 79 15] (mx [89, fv 79 15] (mx [89, fv 79 15] (wv f (fv 79 15) 0 0) f1_1) f1_18) f1_31)) from rwB_w hwl hc hN hR) (show (oB f) from ho) (show (lB f) from hl) (show 0 ≤ (f (fv 79 12) 0) ∧ (f (fv 79 12) 0) ≤ 9999 from hday) (fun f1_37 (hh_38 : ∀ a, 0 ≤ a → a < 8 → f1_37 102 a = enI (aR f) (oR f) (f (fv 79 12) 0) (lwR f) (f1_31 89) (f1_31 (fv 79 15) 0) a) => ?_))
            have hea := hh_38
            refine ⟨show 0 ≤ (a : Int) ∧ a < 8 from by omega, ?_⟩
            have hev := hea a ha.1 ha.2
            rw [hN, enI_cg hR] at hev
            unfold vB at k0
            rw [← hev] at k0
            have hk := k0 (mx [100, 101, 102] (mx [89, fv 79 15] (mx [89, fv 79 15] (mx [89, fv 79 15] (wv f (fv 79 15) 0 0) f1_1) f1_18) f1_31) f1_37) 
            rw [show mx [89, fv 79 15, 100, 101, 102] f (mx [100, 101, 102] (mx [89, fv 79 15] (mx [89, fv 79 15] (mx [89, fv 79 15] (wv f (fv 79 15) 0 0) f1_1) f1_18) f1_31) f1_37) = (mx [100, 101, 102] (mx [89, fv 79 15] (mx [89, fv 79 15] (mx [89, fv 79 15] (wv f (fv 79 15) 0 0) f1_1) f1_18) f1_31) f1_37) from ((mx_mx rfl (mx_mx rfl (mx_mx rfl (mx_mx rfl (mx_wv rfl mx_rf)))))).symm] at hk
            exact hk
  · omega
set_option maxRecDepth 100000 in
set_option maxHeartbeats 4000000 in
theorem c_buys {a x y z : Int} (hd : 7 ≤ d) (hc : cok (f (fv 79 17) 0) x y z) (ha : 0 ≤ a ∧ a < 8) (hwl : wlB (f 90) (f 91) (f (fv 79 17) 0)) (ho : (oB f)) (hl : (lB f)) (hday : 0 ≤ (f (fv 79 12) 0) ∧ (f (fv 79 12) 0) ≤ 9999) (k0 : ∀ f1 : iF, (¬ (f (fv 79 47) 0) < vB (aR f) (oR f) (f (fv 79 12) 0) (lwR f) (f 90) (f 91) a x y z) → Q none (mx [89, fv 79 15, 100, 101, 102] f f1) g) (k1 : ∀ f1 : iF, ((f (fv 79 47) 0) < vB (aR f) (oR f) (f (fv 79 12) 0) (lwR f) (f 90) (f 91) a x y z) → (f1 (fv 79 47) 0 = vB (aR f) (oR f) (f (fv 79 12) 0) (lwR f) (f 90) (f 91) a x y z) → (f1 104 0 = x ∧ f1 104 1 = y ∧ f1 104 2 = z) → Q none (mx [89, fv 79 15, 100, 101, 102, fv 79 47, 104] f f1) g) : wq d 70 [iR 79, iI a, iI x, iI y, iI z] f g Q := by
  obtain ⟨d, rfl⟩ : ∃ e, d = e + 1 := ⟨d - 1, by omega⟩
  refine i_meth0 rfl rfl (fun O J hO => ?_)
  refine hO (c_earnsBy (by omega) (show cok (f (fv 79 17) 0) x y z from hc) (show 0 ≤ a ∧ a < 8 from ha) (show wlB (f 90) (f 91) (f (fv 79 17) 0) from hwl) (show (oB f) from ho) (show (lB f) from hl) (show 0 ≤ (f (fv 79 12) 0) ∧ (f (fv 79 12) 0) ≤ 9999 from hday) (fun f1_1 => ?_))
  refine ⟨fun (hh_2 : f (fv 79 47) 0 < vB (aR f) (oR f) (f (fv 79 12) 0) (lwR f) (f 90) (f 91) a x y z) => ?_, fun (hh_2 : ¬ f (fv 79 47) 0 < vB (aR f) (oR f) (f (fv 79 12) 0) (lwR f) (f 90) (f 91) a x y z) => ?_⟩
  · refine ⟨show 0 ≤ (0 : Int) ∧ 0 < 3 from by decide, ?_⟩
    refine ⟨show 0 ≤ (1 : Int) ∧ 1 < 3 from by decide, ?_⟩
    refine ⟨show 0 ≤ (2 : Int) ∧ 2 < 3 from by decide, ?_⟩
    have hk := k1 (wv (wv (wv (wv (mx [89, fv 79 15, 100, 101, 102] f f1_1) (fv 79 47) 0 (vB (aR f) (oR f) (f (fv 79 12) 0) (lwR f) (f 90) (f 91) a x y z)) 104 0 x) 104 1 y) 104 2 z) (by assumption) rfl ⟨rfl, rfl, rfl⟩
    rw [show mx [89, fv 79 15, 100, 101, 102, fv 79 47, 104] f (wv (wv (wv (wv (mx [89, fv 79 15, 100, 101, 102] f f1_1) (fv 79 47) 0 (vB (aR f) (oR f) (f (fv 79 12) 0) (lwR f) (f 90) (f 91) a x y z)) 104 0 x) 104 1 y) 104 2 z) = (wv (wv (wv (wv (mx [89, fv 79 15, 100, 101, 102] f f1_1) (fv 79 47) 0 (vB (aR f) (oR f) (f (fv 79 12) 0) (lwR f) (f 90) (f 91) a x y z)) 104 0 x) 104 1 y) 104 2 z) from ((mx_wv rfl (mx_wv rfl (mx_wv rfl (mx_wv rfl (mx_mx rfl mx_rf)))))).symm] at hk
    exact hk
  · have hk := k0 f1_1 (by assumption)
    rw [show mx [89, fv 79 15, 100, 101, 102] f f1_1 = (mx [89, fv 79 15, 100, 101, 102] f f1_1) from (rfl).symm] at hk
    exact hk
/-- measures of the loops -/
def gA : Nat → Int
  | 0 => 0
  | m + 1 => gA m + (m : Int) + 2
def gC : Nat → Int
  | 0 => 0
  | m + 1 => gC m + gA m + 2
def mA (x : Int) : Int := gA (21 - x).toNat
def mC (x : Int) : Int := gC (21 - x).toNat
theorem mA_s {x : Int} (h : x ≤ 20) : mA x = mA (x + 1) + (20 - x) + 2 := by
  unfold mA
  rw [show (21 - x).toNat = (21 - (x + 1)).toNat + 1 by omega, gA]
  omega
theorem mC_s {x : Int} (h : x ≤ 20) : mC x = mC (x + 1) + mA (x + 1) + 2 := by
  unfold mC mA
  rw [show (21 - x).toNat = (21 - (x + 1)).toNat + 1 by omega, gC]
theorem gA_n : ∀ m, 0 ≤ gA m
  | 0 => by decide
  | m + 1 => by
    have := gA_n m
    rw [gA]
    omega
theorem gC_n : ∀ m, 0 ≤ gC m
  | 0 => by decide
  | m + 1 => by
    have := gC_n m
    have := gA_n m
    rw [gC]
    omega
theorem mA_n (x : Int) : 0 ≤ mA x := gA_n _
theorem mC_n (x : Int) : 0 ≤ mC x := gC_n _
theorem mA_0 : mA 0 = 252 := by decide
theorem mC_0 : mC 0 = 1792 := by decide
set_option maxRecDepth 100000 in
set_option maxHeartbeats 4000000 in
theorem c_buy {a w : Int} (hd : 8 ≤ d) (hc4 : 0 ≤ (f (fv 79 4) 0) ∧ (f (fv 79 4) 0) ≤ 8) (hwl : wlB (f 90) (f 91) (f (fv 79 17) 0)) (ho : (oB f)) (hl : (lB f)) (hday : 0 ≤ (f (fv 79 12) 0) ∧ (f (fv 79 12) 0) ≤ 9999) (k0 : ∀ ans : Int → Int, ∀ r : Int, ∀ f1 : iF, (0 ≤ a ∧ a < (f (fv 79 4) 0) ∧ ¬ (f (fv 79 17) 0) = 0 ∧ 0 ≤ w ∧ w ≤ 3) → (BuyP (vB (aR f) (oR f) (f (fv 79 12) 0) (lwR f) (f 90) (f 91) a) (f (fv 79 17) 0) ans) → (r = ans w) → Q (some (iI r)) (mx [89, fv 79 15, 100, 101, 102, fv 79 47, 104, fv 79 0] f f1) g) (k1 : (¬ (0 ≤ a ∧ a < (f (fv 79 4) 0) ∧ ¬ (f (fv 79 17) 0) = 0 ∧ 0 ≤ w ∧ w ≤ 3)) → Q (some (iI (-1))) (wv f (fv 79 0) 0 0) g) : wq d 71 [iR 79, iI a, iI w] f g Q := by
  obtain ⟨d, rfl⟩ : ∃ e, d = e + 1 := ⟨d - 1, by omega⟩
  refine i_meth [(23, 4), (37, 4), (45, 5), (61, 4), (69, 5), (77, 6)] (fun n j lv st f' g' => (j = 23 ∧ ∃ (x : Int) (f1 : iF), lv = [some (iR 79), some (iI a), some (iI w), some (iI x)] ∧ st = [] ∧ f' = (mx [89, fv 79 15, 100, 101, 102, fv 79 47, 104, fv 79 0] f f1) ∧ g = g' ∧ (0 ≤ a ∧ a < f (fv 79 4) 0 ∧ ¬ (f (fv 79 17) 0) = 0 ∧ 0 ≤ w ∧ w ≤ 3) ∧ (0 ≤ x ∧ x ≤ (f (fv 79 17) 0)) ∧ (byI (vB (aR f) (oR f) (f (fv 79 12) 0) (lwR f) (f 90) (f 91) a) (f (fv 79 17) 0) kRef (10000 + x * 441) (f1 (fv 79 47) 0) (f1 104 0) (f1 104 1) (f1 104 2)) ∧ (n : Int) = 2100 + (21 - x)) ∨ (j = 37 ∧ ∃ (x : Int) (f1 : iF), lv = [some (iR 79), some (iI a), some (iI w), some (iI x)] ∧ st = [] ∧ f' = (mx [89, fv 79 15, 100, 101, 102, fv 79 47, 104, fv 79 0] f f1) ∧ g = g' ∧ (0 ≤ a ∧ a < f (fv 79 4) 0 ∧ ¬ (f (fv 79 17) 0) = 0 ∧ 0 ≤ w ∧ w ≤ 3) ∧ (0 ≤ x ∧ x ≤ (f (fv 79 17) 0)) ∧ (byI (vB (aR f) (oR f) (f (fv 79 12) 0) (lwR f) (f 90) (f 91) a) (f (fv 79 17) 0) kRef (20000 + x * 441) (f1 (fv 79 47) 0) (f1 104 0) (f1 104 1) (f1 104 2)) ∧ (n : Int) = 1800 + mA x) ∨ (j = 45 ∧ ∃ (x : Int) (y : Int) (f1 : iF), lv = [some (iR 79), some (iI a), some (iI w), some (iI x), some (iI y)] ∧ st = [] ∧ f' = (mx [89, fv 79 15, 100, 101, 102, fv 79 47, 104, fv 79 0] f f1) ∧ g = g' ∧ (0 ≤ a ∧ a < f (fv 79 4) 0 ∧ ¬ (f (fv 79 17) 0) = 0 ∧ 0 ≤ w ∧ w ≤ 3) ∧ (0 ≤ x ∧ x < y ∧ x < (f (fv 79 17) 0) ∧ y ≤ (f (fv 79 17) 0)) ∧ (byI (vB (aR f) (oR f) (f (fv 79 12) 0) (lwR f) (f 90) (f 91) a) (f (fv 79 17) 0) kRef (20000 + x * 441 + (y + 1) * 21) (f1 (fv 79 47) 0) (f1 104 0) (f1 104 1) (f1 104 2)) ∧ (n : Int) = 1800 + mA (x + 1) + (21 - y)) ∨ (j = 61 ∧ ∃ (x : Int) (f1 : iF), lv = [some (iR 79), some (iI a), some (iI w), some (iI x)] ∧ st = [] ∧ f' = (mx [89, fv 79 15, 100, 101, 102, fv 79 47, 104, fv 79 0] f f1) ∧ g = g' ∧ (0 ≤ a ∧ a < f (fv 79 4) 0 ∧ ¬ (f (fv 79 17) 0) = 0 ∧ 0 ≤ w ∧ w ≤ 3) ∧ (0 ≤ x ∧ x ≤ (f (fv 79 17) 0)) ∧ (byI (vB (aR f) (oR f) (f (fv 79 12) 0) (lwR f) (f 90) (f 91) a) (f (fv 79 17) 0) kRef (30000 + x * 441) (f1 (fv 79 47) 0) (f1 104 0) (f1 104 1) (f1 104 2)) ∧ (n : Int) = mC x) ∨ (j = 69 ∧ ∃ (x : Int) (y : Int) (f1 : iF), lv = [some (iR 79), some (iI a), some (iI w), some (iI x), some (iI y)] ∧ st = [] ∧ f' = (mx [89, fv 79 15, 100, 101, 102, fv 79 47, 104, fv 79 0] f f1) ∧ g = g' ∧ (0 ≤ a ∧ a < f (fv 79 4) 0 ∧ ¬ (f (fv 79 17) 0) = 0 ∧ 0 ≤ w ∧ w ≤ 3) ∧ (0 ≤ x ∧ x < y ∧ x < (f (fv 79 17) 0) ∧ y ≤ (f (fv 79 17) 0)) ∧ (byI (vB (aR f) (oR f) (f (fv 79 12) 0) (lwR f) (f 90) (f 91) a) (f (fv 79 17) 0) kRef (30000 + x * 441 + (y + 1) * 21) (f1 (fv 79 47) 0) (f1 104 0) (f1 104 1) (f1 104 2)) ∧ (n : Int) = mC (x + 1) + mA y + 1) ∨ (j = 77 ∧ ∃ (x : Int) (y : Int) (z : Int) (f1 : iF), lv = [some (iR 79), some (iI a), some (iI w), some (iI x), some (iI y), some (iI z)] ∧ st = [] ∧ f' = (mx [89, fv 79 15, 100, 101, 102, fv 79 47, 104, fv 79 0] f f1) ∧ g = g' ∧ (0 ≤ a ∧ a < f (fv 79 4) 0 ∧ ¬ (f (fv 79 17) 0) = 0 ∧ 0 ≤ w ∧ w ≤ 3) ∧ (0 ≤ x ∧ x < y ∧ y < z ∧ y < (f (fv 79 17) 0) ∧ z ≤ (f (fv 79 17) 0)) ∧ (byI (vB (aR f) (oR f) (f (fv 79 12) 0) (lwR f) (f 90) (f 91) a) (f (fv 79 17) 0) kRef (30000 + x * 441 + (y + 1) * 21 + (z + 1)) (f1 (fv 79 47) 0) (f1 104 0) (f1 104 1) (f1 104 2)) ∧ (n : Int) = mC (x + 1) + mA (y + 1) + (21 - z) + 1)) 2130 (by omega) rfl rfl (fun n j lv st f' g' hn hI O J hO hF hB => ?_) (fun hvs hin O J hO hF => ?_)
  · rcases hI with hI | hI | hI | hI | hI | hI
    · obtain ⟨rfl, x, f1, rfl, rfl, rfl, rfl, hp, hv, hBI, hm⟩ := hI
      have hcnt := hwl.1
      have hVr : ∀ x y z, cok (f (fv 79 17) 0) x y z → 0 ≤ (vB (aR f) (oR f) (f (fv 79 12) 0) (lwR f) (f 90) (f 91) a) x y z := fun x y z h => (vB_r hwl h).1
      have hm0 := mA_0
      have hmc0 := mC_0
      refine ⟨fun (hh_1 : x < f (fv 79 17) 0) => ?_, fun (hh_1 : ¬ x < f (fv 79 17) 0) => ?_⟩
      · refine hO (c_buys (by omega) (show cok (f (fv 79 17) 0) x (-1) (-1) from ⟨by omega, by omega, Or.inl ⟨rfl, rfl⟩⟩) (show 0 ≤ a ∧ a < 8 from by omega) (show wlB (f 90) (f 91) (f (fv 79 17) 0) from hwl) (show (oB f) from ho) (show (lB f) from hl) (show 0 ≤ (f (fv 79 12) 0) ∧ (f (fv 79 12) 0) ≤ 9999 from hday) (fun f1_2 (hh_3 : ¬ (f1 (fv 79 47) 0) < vB (aR f) (oR f) (f (fv 79 12) 0) (lwR f) (f 90) (f 91) a x (-1) (-1)) => ?_) (fun f1_4 (hh_5 : (f1 (fv 79 47) 0) < vB (aR f) (oR f) (f (fv 79 12) 0) (lwR f) (f 90) (f 91) a x (-1) (-1)) (hh_6 : f1_4 (fv 79 47) 0 = vB (aR f) (oR f) (f (fv 79 12) 0) (lwR f) (f 90) (f 91) a x (-1) (-1)) (hh_7 : f1_4 104 0 = x ∧ f1_4 104 1 = (-1) ∧ f1_4 104 2 = (-1)) => ?_))
        · have hck : cok (f (fv 79 17) 0) x (-1) (-1) := ⟨by omega, by omega, Or.inl ⟨rfl, rfl⟩⟩
          have hkr : kRef x (-1) (-1) = 10000 + x * 441 := by have := kRef_c hck; omega
          have hst2 := byR_step hcnt.2 hBI hVr hck hkr
          have hBI2 := hst2.2 hh_3
          refine ⟨show inr (x + 1) from by constructor <;> omega, ?_⟩
          refine hB (2100 + (21 - (x + 1)) : Int).toNat ?_ (Or.inl ⟨rfl, (x + 1), (mx [89, fv 79 15, 100, 101, 102] f1 f1_2), rfl, rfl, (mx_mx rfl rfl), rfl, ?_, ?_, ?_, ?_⟩)
          · omega
          · omega
          · omega
          · exact byI_skip hBI2 (by omega) (fun a2 b2 c2 h2 h3 => by have := kRef_c h2; omega)
          · omega
        · have hck : cok (f (fv 79 17) 0) x (-1) (-1) := ⟨by omega, by omega, Or.inl ⟨rfl, rfl⟩⟩
          have hkr : kRef x (-1) (-1) = 10000 + x * 441 := by have := kRef_c hck; omega
          have hst2 := byR_step hcnt.2 hBI hVr hck hkr
          have hBI2 := hst2.1 hh_5
          rw [← hh_6] at hBI2
          obtain ⟨hbx, hby, hbz⟩ := hh_7
          have hBI2 : byI (vB (aR f) (oR f) (f (fv 79 12) 0) (lwR f) (f 90) (f 91) a) (f (fv 79 17) 0) kRef (10000 + x * 441 + 1) (f1_4 (fv 79 47) 0) (f1_4 104 0) (f1_4 104 1) (f1_4 104 2) := by rw [hbx, hby, hbz]; exact hBI2
          refine ⟨show inr (x + 1) from by constructor <;> omega, ?_⟩
          refine hB (2100 + (21 - (x + 1)) : Int).toNat ?_ (Or.inl ⟨rfl, (x + 1), (mx [89, fv 79 15, 100, 101, 102, fv 79 47, 104] f1 f1_4), rfl, rfl, (mx_mx rfl rfl), rfl, ?_, ?_, ?_, ?_⟩)
          · omega
          · omega
          · omega
          · exact byI_skip hBI2 (by omega) (fun a2 b2 c2 h2 h3 => by have := kRef_c h2; omega)
          · omega
      · refine hF (1800 + mA 0 : Int).toNat ?_ (Or.inr (Or.inl ⟨rfl, 0, f1, rfl, rfl, rfl, rfl, ?_, ?_, ?_, ?_⟩))
        · omega
        · omega
        · omega
        · exact byI_skip hBI (by omega) (fun a2 b2 c2 h2 h3 => by have := kRef_c h2; omega)
        · omega
    · obtain ⟨rfl, x, f1, rfl, rfl, rfl, rfl, hp, hv, hBI, hm⟩ := hI
      have hcnt := hwl.1
      have hVr : ∀ x y z, cok (f (fv 79 17) 0) x y z → 0 ≤ (vB (aR f) (oR f) (f (fv 79 12) 0) (lwR f) (f 90) (f 91) a) x y z := fun x y z h => (vB_r hwl h).1
      have hm0 := mA_0
      have hmc0 := mC_0
      have hmx := mA_s (x := x) (by omega)
      have hmn := mA_n x
      refine ⟨fun (hh_8 : x < f (fv 79 17) 0) => ?_, fun (hh_8 : ¬ x < f (fv 79 17) 0) => ?_⟩
      · refine Or.inl ⟨show inr (x + 1) from by constructor <;> omega, ?_⟩
        refine hF (1800 + mA (x + 1) + (21 - (x + 1)) : Int).toNat ?_ (Or.inr (Or.inr (Or.inl ⟨rfl, x, (x + 1), f1, rfl, rfl, rfl, rfl, ?_, ?_, ?_, ?_⟩)))
        · omega
        · omega
        · omega
        · exact byI_skip hBI (by omega) (fun a2 b2 c2 h2 h3 => by have := kRef_c h2; omega)
        · omega
      · refine hF (mC 0 : Int).toNat ?_ (Or.inr (Or.inr (Or.inr (Or.inl ⟨rfl, 0, f1, rfl, rfl, rfl, rfl, ?_, ?_, ?_, ?_⟩))))
        · omega
        · omega
        · omega
        · exact byI_skip hBI (by omega) (fun a2 b2 c2 h2 h3 => by have := kRef_c h2; omega)
        · omega
    · obtain ⟨rfl, x, y, f1, rfl, rfl, rfl, rfl, hp, hv, hBI, hm⟩ := hI
      have hcnt := hwl.1
      have hVr : ∀ x y z, cok (f (fv 79 17) 0) x y z → 0 ≤ (vB (aR f) (oR f) (f (fv 79 12) 0) (lwR f) (f 90) (f 91) a) x y z := fun x y z h => (vB_r hwl h).1
      have hmn := mA_n (x + 1)
      refine ⟨fun (hh_9 : y < f (fv 79 17) 0) => ?_, fun (hh_9 : ¬ y < f (fv 79 17) 0) => ?_⟩
      · refine hO (c_buys (by omega) (show cok (f (fv 79 17) 0) x y (-1) from ⟨by omega, by omega, Or.inr ⟨by omega, by omega, Or.inl rfl⟩⟩) (show 0 ≤ a ∧ a < 8 from by omega) (show wlB (f 90) (f 91) (f (fv 79 17) 0) from hwl) (show (oB f) from ho) (show (lB f) from hl) (show 0 ≤ (f (fv 79 12) 0) ∧ (f (fv 79 12) 0) ≤ 9999 from hday) (fun f1_10 (hh_11 : ¬ (f1 (fv 79 47) 0) < vB (aR f) (oR f) (f (fv 79 12) 0) (lwR f) (f 90) (f 91) a x y (-1)) => ?_) (fun f1_12 (hh_13 : (f1 (fv 79 47) 0) < vB (aR f) (oR f) (f (fv 79 12) 0) (lwR f) (f 90) (f 91) a x y (-1)) (hh_14 : f1_12 (fv 79 47) 0 = vB (aR f) (oR f) (f (fv 79 12) 0) (lwR f) (f 90) (f 91) a x y (-1)) (hh_15 : f1_12 104 0 = x ∧ f1_12 104 1 = y ∧ f1_12 104 2 = (-1)) => ?_))
        · have hck : cok (f (fv 79 17) 0) x y (-1) := ⟨by omega, by omega, Or.inr ⟨by omega, by omega, Or.inl rfl⟩⟩
          have hkr : kRef x y (-1) = 20000 + x * 441 + (y + 1) * 21 := by have := kRef_c hck; omega
          have hst2 := byR_step hcnt.2 hBI hVr hck hkr
          have hBI2 := hst2.2 hh_11
          refine ⟨show inr (y + 1) from by constructor <;> omega, ?_⟩
          refine hB (1800 + mA (x + 1) + (21 - (y + 1)) : Int).toNat ?_ (Or.inr (Or.inr (Or.inl ⟨rfl, x, (y + 1), (mx [89, fv 79 15, 100, 101, 102] f1 f1_10), rfl, rfl, (mx_mx rfl rfl), rfl, ?_, ?_, ?_, ?_⟩)))
          · omega
          · omega
          · omega
          · exact byI_skip hBI2 (by omega) (fun a2 b2 c2 h2 h3 => by have := kRef_c h2; omega)
          · omega
        · have hck : cok (f (fv 79 17) 0) x y (-1) := ⟨by omega, by omega, Or.inr ⟨by omega, by omega, Or.inl rfl⟩⟩
          have hkr : kRef x y (-1) = 20000 + x * 441 + (y + 1) * 21 := by have := kRef_c hck; omega
          have hst2 := byR_step hcnt.2 hBI hVr hck hkr
          have hBI2 := hst2.1 hh_13
          rw [← hh_14] at hBI2
          obtain ⟨hbx, hby, hbz⟩ := hh_15
          have hBI2 : byI (vB (aR f) (oR f) (f (fv 79 12) 0) (lwR f) (f 90) (f 91) a) (f (fv 79 17) 0) kRef (20000 + x * 441 + (y + 1) * 21 + 1) (f1_12 (fv 79 47) 0) (f1_12 104 0) (f1_12 104 1) (f1_12 104 2) := by rw [hbx, hby, hbz]; exact hBI2
          refine ⟨show inr (y + 1) from by constructor <;> omega, ?_⟩
          refine hB (1800 + mA (x + 1) + (21 - (y + 1)) : Int).toNat ?_ (Or.inr (Or.inr (Or.inl ⟨rfl, x, (y + 1), (mx [89, fv 79 15, 100, 101, 102, fv 79 47, 104] f1 f1_12), rfl, rfl, (mx_mx rfl rfl), rfl, ?_, ?_, ?_, ?_⟩)))
          · omega
          · omega
          · omega
          · exact byI_skip hBI2 (by omega) (fun a2 b2 c2 h2 h3 => by have := kRef_c h2; omega)
          · omega
      · refine ⟨show inr (x + 1) from by constructor <;> omega, ?_⟩
        refine hB (1800 + mA (x + 1) : Int).toNat ?_ (Or.inr (Or.inl ⟨rfl, (x + 1), f1, rfl, rfl, rfl, rfl, ?_, ?_, ?_, ?_⟩))
        · omega
        · omega
        · omega
        · exact byI_skip hBI (by omega) (fun a2 b2 c2 h2 h3 => by have := kRef_c h2; omega)
        · omega
    · obtain ⟨rfl, x, f1, rfl, rfl, rfl, rfl, hp, hv, hBI, hm⟩ := hI
      have hcnt := hwl.1
      have hVr : ∀ x y z, cok (f (fv 79 17) 0) x y z → 0 ≤ (vB (aR f) (oR f) (f (fv 79 12) 0) (lwR f) (f 90) (f 91) a) x y z := fun x y z h => (vB_r hwl h).1
      have hmx := mC_s (x := x) (by omega)
      have hmn := mA_n (x + 1)
      have hcn := mC_n (x + 1)
      refine ⟨fun (hh_16 : x < f (fv 79 17) 0) => ?_, fun (hh_16 : ¬ x < f (fv 79 17) 0) => ?_⟩
      · refine Or.inl ⟨show inr (x + 1) from by constructor <;> omega, ?_⟩
        refine hF (mC (x + 1) + mA (x + 1) + 1 : Int).toNat ?_ (Or.inr (Or.inr (Or.inr (Or.inr (Or.inl ⟨rfl, x, (x + 1), f1, rfl, rfl, rfl, rfl, ?_, ?_, ?_, ?_⟩)))))
        · omega
        · omega
        · omega
        · exact byI_skip hBI (by omega) (fun a2 b2 c2 h2 h3 => by have := kRef_c h2; omega)
        · omega
      · refine ⟨fun (hh_17 : w = 0) => ?_, fun (hh_17 : ¬ w = 0) => ?_⟩
        · have hk := k0 (an5 (f1 (fv 79 47) 0) (f1 104 0) (f1 104 1) (f1 104 2) 0) (f1 (fv 79 47) 0) f1 hp (byI_end hBI (by omega) (fun a2 b2 c2 h2 => by have := kRef_c h2; omega)) (by first | (rw [show w = 0 by assumption]; rfl) | (rcases (show w = 1 ∨ w = 2 ∨ w = 3 by omega) with h | h | h <;> rw [h] <;> rfl))
          exact hk
        · refine Or.inl ⟨show inr (w - 1) from by constructor <;> omega, ?_⟩
          refine ⟨show 0 ≤ ((w - 1) : Int) ∧ (w - 1) < 3 from by omega, ?_⟩
          have hk := k0 (an5 (f1 (fv 79 47) 0) (f1 104 0) (f1 104 1) (f1 104 2) 0) (f1 104 (w - 1)) f1 hp (byI_end hBI (by omega) (fun a2 b2 c2 h2 => by have := kRef_c h2; omega)) (by first | (rw [show w = 0 by assumption]; rfl) | (rcases (show w = 1 ∨ w = 2 ∨ w = 3 by omega) with h | h | h <;> rw [h] <;> rfl))
          exact hk
    · obtain ⟨rfl, x, y, f1, rfl, rfl, rfl, rfl, hp, hv, hBI, hm⟩ := hI
      have hcnt := hwl.1
      have hVr : ∀ x y z, cok (f (fv 79 17) 0) x y z → 0 ≤ (vB (aR f) (oR f) (f (fv 79 12) 0) (lwR f) (f 90) (f 91) a) x y z := fun x y z h => (vB_r hwl h).1
      have hmy := mA_s (x := y) (by omega)
      have hmn := mA_n y
      have hcn := mC_n (x + 1)
      have hmn2 := mA_n (y + 1)
      refine ⟨fun (hh_18 : y < f (fv 79 17) 0) => ?_, fun (hh_18 : ¬ y < f (fv 79 17) 0) => ?_⟩
      · refine Or.inl ⟨show inr (y + 1) from by constructor <;> omega, ?_⟩
        refine hF (mC (x + 1) + mA (y + 1) + (21 - (y + 1)) + 1 : Int).toNat ?_ (Or.inr (Or.inr (Or.inr (Or.inr (Or.inr (⟨rfl, x, y, (y + 1), f1, rfl, rfl, rfl, rfl, ?_, ?_, ?_, ?_⟩))))))
        · omega
        · omega
        · omega
        · exact byI_skip hBI (by omega) (fun a2 b2 c2 h2 h3 => by have := kRef_c h2; omega)
        · omega
      · refine ⟨show inr (x + 1) from by constructor <;> omega, ?_⟩
        refine hB (mC (x + 1) : Int).toNat ?_ (Or.inr (Or.inr (Or.inr (Or.inl ⟨rfl, (x + 1), f1, rfl, rfl, rfl, rfl, ?_, ?_, ?_, ?_⟩))))
        · omega
        · omega
        · omega
        · exact byI_skip hBI (by omega) (fun a2 b2 c2 h2 h3 => by have := kRef_c h2; omega)
        · omega
    · obtain ⟨rfl, x, y, z, f1, rfl, rfl, rfl, rfl, hp, hv, hBI, hm⟩ := hI
      have hcnt := hwl.1
      have hVr : ∀ x y z, cok (f (fv 79 17) 0) x y z → 0 ≤ (vB (aR f) (oR f) (f (fv 79 12) 0) (lwR f) (f 90) (f 91) a) x y z := fun x y z h => (vB_r hwl h).1
      have hcn := mC_n (x + 1)
      have hmn2 := mA_n (y + 1)
      refine ⟨fun (hh_19 : z < f (fv 79 17) 0) => ?_, fun (hh_19 : ¬ z < f (fv 79 17) 0) => ?_⟩
      · refine hO (c_buys (by omega) (show cok (f (fv 79 17) 0) x y z from ⟨by omega, by omega, Or.inr ⟨by omega, by omega, Or.inr ⟨by omega, by omega⟩⟩⟩) (show 0 ≤ a ∧ a < 8 from by omega) (show wlB (f 90) (f 91) (f (fv 79 17) 0) from hwl) (show (oB f) from ho) (show (lB f) from hl) (show 0 ≤ (f (fv 79 12) 0) ∧ (f (fv 79 12) 0) ≤ 9999 from hday) (fun f1_20 (hh_21 : ¬ (f1 (fv 79 47) 0) < vB (aR f) (oR f) (f (fv 79 12) 0) (lwR f) (f 90) (f 91) a x y z) => ?_) (fun f1_22 (hh_23 : (f1 (fv 79 47) 0) < vB (aR f) (oR f) (f (fv 79 12) 0) (lwR f) (f 90) (f 91) a x y z) (hh_24 : f1_22 (fv 79 47) 0 = vB (aR f) (oR f) (f (fv 79 12) 0) (lwR f) (f 90) (f 91) a x y z) (hh_25 : f1_22 104 0 = x ∧ f1_22 104 1 = y ∧ f1_22 104 2 = z) => ?_))
        · have hck : cok (f (fv 79 17) 0) x y z := ⟨by omega, by omega, Or.inr ⟨by omega, by omega, Or.inr ⟨by omega, by omega⟩⟩⟩
          have hkr : kRef x y z = 30000 + x * 441 + (y + 1) * 21 + (z + 1) := by have := kRef_c hck; omega
          have hst2 := byR_step hcnt.2 hBI hVr hck hkr
          have hBI2 := hst2.2 hh_21
          refine ⟨show inr (z + 1) from by constructor <;> omega, ?_⟩
          refine hB (mC (x + 1) + mA (y + 1) + (21 - (z + 1)) + 1 : Int).toNat ?_ (Or.inr (Or.inr (Or.inr (Or.inr (Or.inr (⟨rfl, x, y, (z + 1), (mx [89, fv 79 15, 100, 101, 102] f1 f1_20), rfl, rfl, (mx_mx rfl rfl), rfl, ?_, ?_, ?_, ?_⟩))))))
          · omega
          · omega
          · omega
          · exact byI_skip hBI2 (by omega) (fun a2 b2 c2 h2 h3 => by have := kRef_c h2; omega)
          · omega
        · have hck : cok (f (fv 79 17) 0) x y z := ⟨by omega, by omega, Or.inr ⟨by omega, by omega, Or.inr ⟨by omega, by omega⟩⟩⟩
          have hkr : kRef x y z = 30000 + x * 441 + (y + 1) * 21 + (z + 1) := by have := kRef_c hck; omega
          have hst2 := byR_step hcnt.2 hBI hVr hck hkr
          have hBI2 := hst2.1 hh_23
          rw [← hh_24] at hBI2
          obtain ⟨hbx, hby, hbz⟩ := hh_25
          have hBI2 : byI (vB (aR f) (oR f) (f (fv 79 12) 0) (lwR f) (f 90) (f 91) a) (f (fv 79 17) 0) kRef (30000 + x * 441 + (y + 1) * 21 + (z + 1) + 1) (f1_22 (fv 79 47) 0) (f1_22 104 0) (f1_22 104 1) (f1_22 104 2) := by rw [hbx, hby, hbz]; exact hBI2
          refine ⟨show inr (z + 1) from by constructor <;> omega, ?_⟩
          refine hB (mC (x + 1) + mA (y + 1) + (21 - (z + 1)) + 1 : Int).toNat ?_ (Or.inr (Or.inr (Or.inr (Or.inr (Or.inr (⟨rfl, x, y, (z + 1), (mx [89, fv 79 15, 100, 101, 102, fv 79 47, 104] f1 f1_22), rfl, rfl, (mx_mx rfl rfl), rfl, ?_, ?_, ?_, ?_⟩))))))
          · omega
          · omega
          · omega
          · exact byI_skip hBI2 (by omega) (fun a2 b2 c2 h2 h3 => by have := kRef_c h2; omega)
          · omega
      · refine ⟨show inr (y + 1) from by constructor <;> omega, ?_⟩
        refine hB (mC (x + 1) + mA (y + 1) + 1 : Int).toNat ?_ (Or.inr (Or.inr (Or.inr (Or.inr (Or.inl ⟨rfl, x, (y + 1), f1, rfl, rfl, rfl, rfl, ?_, ?_, ?_, ?_⟩)))))
        · omega
        · omega
        · omega
        · exact byI_skip hBI (by omega) (fun a2 b2 c2 h2 h3 => by have := kRef_c h2; omega)
        · omega
  · have hcnt := hwl.1
    have hm0 := mA_0
    have hmc0 := mC_0
    refine hO (c_isAppr (by omega) (fun (hh_26 : 0 ≤ a) (hh_27 : a < (f (fv 79 4) 0)) => ?_) (fun (hh_28 : ¬ (0 ≤ a ∧ a < (f (fv 79 4) 0))) => ?_))
    · refine ⟨fun h => absurd (show (1 : Int) = 0 from h) (by decide), fun _ => ?_⟩
      refine ⟨fun (hh_29 : f (fv 79 17) 0 = 0) => ?_, fun (hh_29 : ¬ f (fv 79 17) 0 = 0) => ?_⟩
      · exact k1 (by omega)
      · refine hO (c_isIn (by omega) (fun (hh_30 : 0 ≤ w) (hh_31 : w ≤ 3) => ?_) (fun (hh_32 : ¬ (0 ≤ w ∧ w ≤ 3)) => ?_))
        · refine ⟨fun h => absurd (show (1 : Int) = 0 from h) (by decide), fun _ => ?_⟩
          refine hF (2100 + (21 - 0) : Int).toNat ?_ (Or.inl ⟨rfl, 0, (wv (wv f (fv 79 0) 0 0) (fv 79 47) 0 (-1)), rfl, rfl, (mx_wv rfl (mx_wv rfl mx_rf)), rfl, ?_, ?_, ?_, ?_⟩)
          · omega
          · omega
          · omega
          · exact Or.inl ⟨rfl, fun a2 b2 c2 h2 => by have := kRef_c h2; omega⟩
          · omega
        · refine ⟨fun _ => ?_, fun h => absurd (show (0 : Int) = 0 from by decide) h⟩
          exact k1 (by omega)
    · refine ⟨fun _ => ?_, fun h => absurd (show (0 : Int) = 0 from by decide) h⟩
      exact k1 (by omega)
end C22
