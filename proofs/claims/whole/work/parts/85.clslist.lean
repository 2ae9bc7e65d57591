section C34
variable {d : Nat} {f : iF} {g : iG} {Q : Option iv → iF → iG → Prop}
/-! ===== the class: the signs worth trying at a place ===== -/
def chP (ab : Int → Bool) (r0 : Int) (ch : Int → Int) (b c s : Int) : Prop :=
  (∀ j, 0 ≤ j → j < c → 0 ≤ ch (b + j) ∧ ch (b + j) < s ∧ ¬ ch (b + j) = r0 ∧ ¬ r0 = 29) ∧ (∀ j k, 0 ≤ j → j < k → k < c → ch (b + j) < ch (b + k)) ∧ (∀ q, 0 ≤ q → q < s → ¬ q = r0 → ¬ r0 = 29 → ∃ j, 0 ≤ j ∧ j < c ∧ (ch (b + j) = q ∨ (ch (b + j) ≤ q ∧ ab (ch (b + j)) = false ∧ ab q = false ∧ (ch (b + j) < 26 ↔ q < 26))))
/-- a sign that can't be printed, of the kind, is listed -/
def flP (ab : Int → Bool) (ch : Int → Int) (b c : Int) (l : Prop) : Prop := ∃ j, 0 ≤ j ∧ j < c ∧ ab (ch (b + j)) = false ∧ (ch (b + j) < 26 ↔ l)
theorem chP_0 {ab : Int → Bool} {r0 b : Int} {ch : Int → Int} : chP ab r0 ch b 0 0 := ⟨fun j h0 h1 => by omega, fun j k h0 h1 h2 => by omega, fun q h0 h1 => by omega⟩
theorem chP_cg {ab : Int → Bool} {r0 b c s : Int} {ch ch' : Int → Int} (h : ∀ j, 0 ≤ j → j < c → ch' (b + j) = ch (b + j)) (H : chP ab r0 ch b c s) : chP ab r0 ch' b c s := by
  refine ⟨fun j h0 h1 => by rw [h j h0 h1]; exact H.1 j h0 h1, fun j k h0 h1 h2 => by rw [h j h0 (by omega), h k (by omega) h2]; exact H.2.1 j k h0 h1 h2, fun q h0 h1 h2 h3 => ?_⟩
  obtain ⟨j, a0, a1, a2⟩ := H.2.2 q h0 h1 h2 h3
  exact ⟨j, a0, a1, by rw [h j a0 a1]; exact a2⟩
theorem chP_same {ab : Int → Bool} {r0 b c s : Int} {ch : Int → Int} (H : chP ab r0 ch b c s) (e : s = r0) : chP ab r0 ch b c (s + 1) := by
  refine ⟨fun j h0 h1 => ?_, H.2.1, fun q h0 h1 h2 => H.2.2 q h0 (by omega) h2⟩
  have := H.1 j h0 h1
  exact ⟨this.1, by omega, this.2.2⟩
theorem chP_skip {ab : Int → Bool} {r0 b c s : Int} {ch : Int → Int} (H : chP ab r0 ch b c s) (h0 : ab s = false) (h1 : flP ab ch b c (s < 26)) : chP ab r0 ch b c (s + 1) := by
  refine ⟨fun j h0 h1 => ?_, H.2.1, fun q q0 q1 q2 q3 => ?_⟩
  · have := H.1 j h0 h1
    exact ⟨this.1, by omega, this.2.2⟩
  · by_cases e : q = s
    · obtain ⟨j, a0, a1, a2, a3⟩ := h1
      have := H.1 j a0 a1
      rw [e]
      exact ⟨j, a0, a1, Or.inr ⟨by omega, a2, h0, a3⟩⟩
    · exact H.2.2 q q0 (by omega) q2 q3
theorem chP_add {ab : Int → Bool} {r0 b c s : Int} {ch ch' : Int → Int} (H : chP ab r0 ch b c s) (hs : 0 ≤ s) (hc : 0 ≤ c) (hr : ¬ s = r0 ∧ ¬ r0 = 29) (h : ∀ j, 0 ≤ j → j < c → ch' (b + j) = ch (b + j)) (hn : ch' (b + c) = s) : chP ab r0 ch' b (c + 1) (s + 1) := by
  refine ⟨fun j h0 h1 => ?_, fun j k h0 h1 h2 => ?_, fun q q0 q1 q2 q3 => ?_⟩
  · by_cases e : j = c
    · rw [e, hn]; exact ⟨hs, by omega, hr⟩
    · rw [h j h0 (by omega)]
      have := H.1 j h0 (by omega)
      exact ⟨this.1, by omega, this.2.2⟩
  · rw [h j h0 (by omega)]
    by_cases e : k = c
    · rw [e, hn]; exact (H.1 j h0 (by omega)).2.1
    · rw [h k (by omega) (by omega)]; exact H.2.1 j k h0 h1 (by omega)
  · by_cases e : q = s
    · exact ⟨c, hc, by omega, Or.inl (by rw [hn, e])⟩
    · obtain ⟨j, a0, a1, a2⟩ := H.2.2 q q0 (by omega) q2 q3
      exact ⟨j, a0, by omega, by rw [h j a0 a1]; exact a2⟩
theorem chP_blank {ab : Int → Bool} {r0 b c s : Int} {ch : Int → Int} (H : chP ab r0 ch b c s) (hs : s ≤ 29) (e : r0 = 29) : chP ab r0 ch b c 29 := by
  refine ⟨fun j h0 h1 => ?_, H.2.1, fun q h0 h1 h2 h3 => absurd e h3⟩
  have := H.1 j h0 h1
  exact ⟨this.1, by omega, this.2.2⟩
theorem flP_add {ab : Int → Bool} {b c s : Int} {ch ch' : Int → Int} {l : Prop} (hc : 0 ≤ c) (h : ∀ j, 0 ≤ j → j < c → ch' (b + j) = ch (b + j)) (hn : ch' (b + c) = s) (H : flP ab ch b c l ∨ (ab s = false ∧ (s < 26 ↔ l))) : flP ab ch' b (c + 1) l := by
  rcases H with ⟨j, a0, a1, a2, a3⟩ | ⟨a2, a3⟩
  · exact ⟨j, a0, by omega, by rw [h j a0 a1]; exact a2, by rw [h j a0 a1]; exact a3⟩
  · exact ⟨c, hc, by omega, by rw [hn]; exact a2, by rw [hn]; exact a3⟩
set_option maxRecDepth 100000 in
set_option maxHeartbeats 4000000 in
theorem k_list (hd : 3 ≤ d) (hrw : rowB (f (fv 64 1) 0) 12 (f 65)) (hab : (abOK f)) (k0 : ∀ f1 : iF, (∀ o, 0 ≤ o → o < (f (fv 64 1) 0) → 0 ≤ f1 67 o ∧ f1 67 o ≤ 29 ∧ chP (aC f) (f 65 o) (f1 66) (o * 29) (f1 67 o) 29) → Q none (mx [66, 67] f f1) g) : wq d 166 [iR 62] f g Q := by
  obtain ⟨d, rfl⟩ : ∃ e, d = e + 1 := ⟨d - 1, by omega⟩
  refine i_meth [(2, 2), (18, 6), (43, 6), (66, 6), (80, 6)] (fun n j lv st f' g' => (j = 2 ∧ ∃ (i : Int) (f1 : iF), lv = [some (iR 62), some (iI i)] ∧ st = [] ∧ f' = (mx [66, 67] f f1) ∧ g = g' ∧ (0 ≤ i ∧ i ≤ f (fv 64 1) 0) ∧ (∀ o, 0 ≤ o → o < i → 0 ≤ f1 67 o ∧ f1 67 o ≤ 29 ∧ chP (aC f) (f 65 o) (f1 66) (o * 29) (f1 67 o) 29) ∧ (n : Int) = 31 * (13 - i)) ∨ (j = 18 ∧ ∃ (i : Int) (c : Int) (l3 : Int) (l4 : Int) (s : Int) (f1 : iF), lv = [some (iR 62), some (iI i), some (iI c), some (iI l3), some (iI l4), some (iI s)] ∧ st = [] ∧ f' = (mx [66, 67] f f1) ∧ g = g' ∧ (0 ≤ i ∧ i < f (fv 64 1) 0) ∧ (∀ o, 0 ≤ o → o < i → 0 ≤ f1 67 o ∧ f1 67 o ≤ 29 ∧ chP (aC f) (f 65 o) (f1 66) (o * 29) (f1 67 o) 29) ∧ (0 ≤ c ∧ c ≤ s) ∧ (chP (aC f) (f 65 i) (f1 66) (i * 29) c s) ∧ (0 ≤ s ∧ s ≤ 29) ∧ ((l3 = 0 ∨ l3 = 1) ∧ (l3 = 1 → flP (aC f) (f1 66) (i * 29) c True)) ∧ ((l4 = 0 ∨ l4 = 1) ∧ (l4 = 1 → flP (aC f) (f1 66) (i * 29) c False)) ∧ (n : Int) = 31 * (13 - i) - s) ∨ (j = 43 ∧ ∃ (i : Int) (c : Int) (l3 : Int) (l4 : Int) (s : Int) (x6 : Int) (f1 : iF), lv = [some (iR 62), some (iI i), some (iI c), some (iI l3), some (iI l4), some (iI s)] ∧ st = [(iI x6)] ∧ f' = (mx [66, 67] f f1) ∧ g = g' ∧ (0 ≤ i ∧ i < f (fv 64 1) 0) ∧ (∀ o, 0 ≤ o → o < i → 0 ≤ f1 67 o ∧ f1 67 o ≤ 29 ∧ chP (aC f) (f 65 o) (f1 66) (o * 29) (f1 67 o) 29) ∧ (0 ≤ c ∧ c ≤ s) ∧ (chP (aC f) (f 65 i) (f1 66) (i * 29) c s) ∧ (0 ≤ s ∧ s < 29 ∧ f 65 i < 29) ∧ ((l3 = 0 ∨ l3 = 1) ∧ (l3 = 1 → flP (aC f) (f1 66) (i * 29) c True)) ∧ ((l4 = 0 ∨ l4 = 1) ∧ (l4 = 1 → flP (aC f) (f1 66) (i * 29) c False)) ∧ ((x6 = 0 ∨ x6 = 1) ∧ (x6 = 1 → aC f s = false ∧ flP (aC f) (f1 66) (i * 29) c (s < 26))) ∧ (n : Int) = 31 * (13 - i) - s) ∨ (j = 66 ∧ ∃ (i : Int) (c : Int) (l3 : Int) (l4 : Int) (s : Int) (x6 : Int) (f1 : iF), lv = [some (iR 62), some (iI i), some (iI c), some (iI l3), some (iI l4), some (iI s)] ∧ st = [(iI x6)] ∧ f' = (mx [66, 67] f f1) ∧ g = g' ∧ (0 ≤ i ∧ i < f (fv 64 1) 0) ∧ (∀ o, 0 ≤ o → o < i → 0 ≤ f1 67 o ∧ f1 67 o ≤ 29 ∧ chP (aC f) (f 65 o) (f1 66) (o * 29) (f1 67 o) 29) ∧ (0 ≤ c ∧ c ≤ s) ∧ (chP (aC f) (f 65 i) (f1 66) (i * 29) c s) ∧ (0 ≤ s ∧ s < 29 ∧ f 65 i < 29 ∧ ¬ s = f 65 i) ∧ ((l3 = 0 ∨ l3 = 1) ∧ (l3 = 1 → flP (aC f) (f1 66) (i * 29) c True)) ∧ ((l4 = 0 ∨ l4 = 1) ∧ (l4 = 1 → flP (aC f) (f1 66) (i * 29) c False)) ∧ ((x6 = 0 ∨ x6 = 1) ∧ (x6 = 1 → flP (aC f) (f1 66) (i * 29) c True ∨ (aC f s = false ∧ (s < 26 ↔ True)))) ∧ (n : Int) = 31 * (13 - i) - s) ∨ (j = 80 ∧ ∃ (i : Int) (c : Int) (l3 : Int) (l4 : Int) (s : Int) (x6 : Int) (f1 : iF), lv = [some (iR 62), some (iI i), some (iI c), some (iI l3), some (iI l4), some (iI s)] ∧ st = [(iI x6)] ∧ f' = (mx [66, 67] f f1) ∧ g = g' ∧ (0 ≤ i ∧ i < f (fv 64 1) 0) ∧ (∀ o, 0 ≤ o → o < i → 0 ≤ f1 67 o ∧ f1 67 o ≤ 29 ∧ chP (aC f) (f 65 o) (f1 66) (o * 29) (f1 67 o) 29) ∧ (0 ≤ c ∧ c ≤ s) ∧ (chP (aC f) (f 65 i) (f1 66) (i * 29) c s) ∧ (0 ≤ s ∧ s < 29 ∧ f 65 i < 29 ∧ ¬ s = f 65 i) ∧ ((l3 = 0 ∨ l3 = 1) ∧ (l3 = 1 → flP (aC f) (f1 66) (i * 29) c True ∨ (aC f s = false ∧ (s < 26 ↔ True)))) ∧ ((l4 = 0 ∨ l4 = 1) ∧ (l4 = 1 → flP (aC f) (f1 66) (i * 29) c False)) ∧ ((x6 = 0 ∨ x6 = 1) ∧ (x6 = 1 → flP (aC f) (f1 66) (i * 29) c False ∨ (aC f s = false ∧ (s < 26 ↔ False)))) ∧ (n : Int) = 31 * (13 - i) - s)) 403 (by omega) rfl rfl (fun n j lv st f' g' hn hI O J hO hF hB => ?_) (fun hvs hin O J hO hF => ?_)
  · rcases hI with hI | hI | hI | hI | hI
    · obtain ⟨rfl, i, f1, rfl, rfl, rfl, rfl, hi, hD, hm⟩ := hI
      have hrw1 := hrw.1
      refine ⟨fun (hh_1 : i < f (fv 64 1) 0) => ?_, fun (hh_1 : ¬ i < f (fv 64 1) 0) => ?_⟩
      · refine ⟨fun _ => ?_, fun h => absurd (show i < 12 from by omega) h⟩
        refine hF (31 * (13 - i) - 0 : Int).toNat ?_ (Or.inr (Or.inl ⟨rfl, i, 0, 0, 0, 0, f1, rfl, rfl, rfl, rfl, ?_, ?_, ?_, ?_, ?_, ?_, ?_, ?_⟩))
        · omega
        · omega
        · exact hD
        · omega
        · exact chP_0
        · omega
        · exact ⟨Or.inl rfl, fun h => by omega⟩
        · exact ⟨Or.inl rfl, fun h => by omega⟩
        · omega
      · exact k0 f1 (fun o h0 h1 => hD o h0 (by omega))
    · obtain ⟨rfl, i, c, l3, l4, s, f1, rfl, rfl, rfl, rfl, hi, hD, hc, hC, hs, hb3, hb4, hm⟩ := hI
      have hrw1 := hrw.1
      have hri := hrw.2 i (by omega) (by omega)
      refine ⟨fun (hh_2 : s < 29) => ?_, fun (hh_2 : ¬ s < 29) => ?_⟩
      · refine hO (k_get_rm (by omega) (show 0 ≤ i ∧ i < 12 from by omega) ?_)
        refine hO (k_isSign (by omega) (fun (hh_3 : 0 ≤ (f 65 i)) (hh_4 : (f 65 i) < 29) => ?_) (fun (hh_5 : ¬ (0 ≤ (f 65 i) ∧ (f 65 i) < 29)) => ?_))
        · refine ⟨fun h => absurd (show (1 : Int) = 0 from h) (by decide), fun _ => ?_⟩
          refine hO (k_isAble (by omega) (show (abOK f) from hab) (fun (hh_6 : (aC f) s = true) => ?_) (fun (hh_7 : (aC f) s = false) => ?_))
          · refine ⟨fun h => absurd (show (1 : Int) = 0 from h) (by decide), fun _ => ?_⟩
            refine hF (31 * (13 - i) - s : Int).toNat ?_ (Or.inr (Or.inr (Or.inl ⟨rfl, i, c, l3, l4, s, 0, f1, rfl, rfl, rfl, rfl, ?_, ?_, ?_, ?_, ?_, ?_, ?_, ?_, ?_⟩)))
            · omega
            · omega
            · exact hD
            · omega
            · exact hC
            · omega
            · exact hb3
            · exact hb4
            · first | exact ⟨Or.inl rfl, fun h => by omega⟩ | exact ⟨Or.inr rfl, fun _ => ⟨hab9, by rw [eq_true (show s < 26 by omega)]; exact hb3.2 (by omega)⟩⟩ | exact ⟨Or.inr rfl, fun _ => ⟨hab9, by rw [eq_false (show ¬ s < 26 by omega)]; exact hb4.2 (by omega)⟩⟩
            · omega
          · have hab9 := hh_7
            refine ⟨fun _ => ?_, fun h => absurd (show (0 : Int) = 0 from by decide) h⟩
            refine hO (k_isLetter (by omega) (fun (hh_8 : 0 ≤ s) (hh_9 : s < 26) => ?_) (fun (hh_10 : ¬ (0 ≤ s ∧ s < 26)) => ?_))
            · refine ⟨fun h => absurd (show (1 : Int) = 0 from h) (by decide), fun _ => ?_⟩
              refine ⟨fun (hh_11 : l3 = 0) => ?_, fun (hh_11 : ¬ l3 = 0) => ?_⟩
              · refine hF (31 * (13 - i) - s : Int).toNat ?_ (Or.inr (Or.inr (Or.inl ⟨rfl, i, c, l3, l4, s, 0, f1, rfl, rfl, rfl, rfl, ?_, ?_, ?_, ?_, ?_, ?_, ?_, ?_, ?_⟩)))
                · omega
                · omega
                · exact hD
                · omega
                · exact hC
                · omega
                · exact hb3
                · exact hb4
                · first | exact ⟨Or.inl rfl, fun h => by omega⟩ | exact ⟨Or.inr rfl, fun _ => ⟨hab9, by rw [eq_true (show s < 26 by omega)]; exact hb3.2 (by omega)⟩⟩ | exact ⟨Or.inr rfl, fun _ => ⟨hab9, by rw [eq_false (show ¬ s < 26 by omega)]; exact hb4.2 (by omega)⟩⟩
                · omega
              · refine hF (31 * (13 - i) - s : Int).toNat ?_ (Or.inr (Or.inr (Or.inl ⟨rfl, i, c, l3, l4, s, 1, f1, rfl, rfl, rfl, rfl, ?_, ?_, ?_, ?_, ?_, ?_, ?_, ?_, ?_⟩)))
                · omega
                · omega
                · exact hD
                · omega
                · exact hC
                · omega
                · exact hb3
                · exact hb4
                · first | exact ⟨Or.inl rfl, fun h => by omega⟩ | exact ⟨Or.inr rfl, fun _ => ⟨hab9, by rw [eq_true (show s < 26 by omega)]; exact hb3.2 (by omega)⟩⟩ | exact ⟨Or.inr rfl, fun _ => ⟨hab9, by rw [eq_false (show ¬ s < 26 by omega)]; exact hb4.2 (by omega)⟩⟩
                · omega
            · refine ⟨fun _ => ?_, fun h => absurd (show (0 : Int) = 0 from by decide) h⟩
              refine ⟨fun (hh_12 : l4 = 0) => ?_, fun (hh_12 : ¬ l4 = 0) => ?_⟩
              · refine hF (31 * (13 - i) - s : Int).toNat ?_ (Or.inr (Or.inr (Or.inl ⟨rfl, i, c, l3, l4, s, 0, f1, rfl, rfl, rfl, rfl, ?_, ?_, ?_, ?_, ?_, ?_, ?_, ?_, ?_⟩)))
                · omega
                · omega
                · exact hD
                · omega
                · exact hC
                · omega
                · exact hb3
                · exact hb4
                · first | exact ⟨Or.inl rfl, fun h => by omega⟩ | exact ⟨Or.inr rfl, fun _ => ⟨hab9, by rw [eq_true (show s < 26 by omega)]; exact hb3.2 (by omega)⟩⟩ | exact ⟨Or.inr rfl, fun _ => ⟨hab9, by rw [eq_false (show ¬ s < 26 by omega)]; exact hb4.2 (by omega)⟩⟩
                · omega
              · refine hF (31 * (13 - i) - s : Int).toNat ?_ (Or.inr (Or.inr (Or.inl ⟨rfl, i, c, l3, l4, s, 1, f1, rfl, rfl, rfl, rfl, ?_, ?_, ?_, ?_, ?_, ?_, ?_, ?_, ?_⟩)))
                · omega
                · omega
                · exact hD
                · omega
                · exact hC
                · omega
                · exact hb3
                · exact hb4
                · first | exact ⟨Or.inl rfl, fun h => by omega⟩ | exact ⟨Or.inr rfl, fun _ => ⟨hab9, by rw [eq_true (show s < 26 by omega)]; exact hb3.2 (by omega)⟩⟩ | exact ⟨Or.inr rfl, fun _ => ⟨hab9, by rw [eq_false (show ¬ s < 26 by omega)]; exact hb4.2 (by omega)⟩⟩
                · omega
        · refine ⟨fun _ => ?_, fun h => absurd (show (0 : Int) = 0 from by decide) h⟩
          refine ⟨show 0 ≤ (i : Int) ∧ i < 12 from by omega, ?_⟩
          refine ⟨show inr (i + 1) from by constructor <;> omega, ?_⟩
          refine hB (31 * (13 - (i + 1)) : Int).toNat ?_ (Or.inl ⟨rfl, (i + 1), (wv f1 67 i c), rfl, rfl, (mx_wv rfl rfl), rfl, ?_, ?_, ?_⟩)
          · omega
          · omega
          · intro o h0 h1
            by_cases e : o = i
            · rw [e]
              show 0 ≤ wv f1 67 i c 67 i ∧ wv f1 67 i c 67 i ≤ 29 ∧ chP (aC f) (f 65 i) (f1 66) (i * 29) (wv f1 67 i c 67 i) 29
              rw [wv_s]
              exact ⟨by omega, by omega, by first | exact chP_blank hC (by omega) (by omega) | (rw [show s = 29 by omega] at hC; exact hC)⟩
            · have q := hD o h0 (by omega)
              show 0 ≤ wv f1 67 i c 67 o ∧ wv f1 67 i c 67 o ≤ 29 ∧ chP (aC f) (f 65 o) (f1 66) (o * 29) (wv f1 67 i c 67 o) 29
              rw [wv_k e]
              exact q
          · omega
      · refine ⟨show 0 ≤ (i : Int) ∧ i < 12 from by omega, ?_⟩
        refine ⟨show inr (i + 1) from by constructor <;> omega, ?_⟩
        refine hB (31 * (13 - (i + 1)) : Int).toNat ?_ (Or.inl ⟨rfl, (i + 1), (wv f1 67 i c), rfl, rfl, (mx_wv rfl rfl), rfl, ?_, ?_, ?_⟩)
        · omega
        · omega
        · intro o h0 h1
          by_cases e : o = i
          · rw [e]
            show 0 ≤ wv f1 67 i c 67 i ∧ wv f1 67 i c 67 i ≤ 29 ∧ chP (aC f) (f 65 i) (f1 66) (i * 29) (wv f1 67 i c 67 i) 29
            rw [wv_s]
            exact ⟨by omega, by omega, by first | exact chP_blank hC (by omega) (by omega) | (rw [show s = 29 by omega] at hC; exact hC)⟩
          · have q := hD o h0 (by omega)
            show 0 ≤ wv f1 67 i c 67 o ∧ wv f1 67 i c 67 o ≤ 29 ∧ chP (aC f) (f 65 o) (f1 66) (o * 29) (wv f1 67 i c 67 o) 29
            rw [wv_k e]
            exact q
        · omega
    · obtain ⟨rfl, i, c, l3, l4, s, x6, f1, rfl, rfl, rfl, rfl, hi, hD, hc, hC, hs, hb3, hb4, hx, hm⟩ := hI
      have hrw1 := hrw.1
      have hri := hrw.2 i (by omega) (by omega)
      refine hO (k_get_rm (by omega) (show 0 ≤ i ∧ i < 12 from by omega) ?_)
      refine ⟨fun (hh_13 : s = (f 65 i)) => ?_, fun (hh_13 : ¬ s = (f 65 i)) => ?_⟩
      · refine ⟨show inr (s + 1) from by constructor <;> omega, ?_⟩
        refine hB (31 * (13 - i) - (s + 1) : Int).toNat ?_ (Or.inr (Or.inl ⟨rfl, i, c, l3, l4, (s + 1), f1, rfl, rfl, rfl, rfl, ?_, ?_, ?_, ?_, ?_, ?_, ?_, ?_⟩))
        · omega
        · omega
        · exact hD
        · omega
        · first | exact chP_same hC (by omega) | exact chP_skip hC (hx.2 (by omega)).1 (hx.2 (by omega)).2
        · omega
        · exact hb3
        · exact hb4
        · omega
      · refine ⟨fun (hh_14 : x6 = 0) => ?_, fun (hh_14 : ¬ x6 = 0) => ?_⟩
        · refine ⟨fun (hh_15 : l3 = 0) => ?_, fun (hh_15 : ¬ l3 = 0) => ?_⟩
          · refine hO (k_isAble (by omega) (show (abOK f) from hab) (fun (hh_16 : (aC f) s = true) => ?_) (fun (hh_17 : (aC f) s = false) => ?_))
            · refine ⟨fun h => absurd (show (1 : Int) = 0 from h) (by decide), fun _ => ?_⟩
              refine hF (31 * (13 - i) - s : Int).toNat ?_ (Or.inr (Or.inr (Or.inr (Or.inl ⟨rfl, i, c, l3, l4, s, 0, f1, rfl, rfl, rfl, rfl, ?_, ?_, ?_, ?_, ?_, ?_, ?_, ?_, ?_⟩))))
              · omega
              · omega
              · exact hD
              · omega
              · exact hC
              · omega
              · exact hb3
              · exact hb4
              · first | exact ⟨Or.inl rfl, fun h => by omega⟩ | exact ⟨Or.inr rfl, fun _ => Or.inr ⟨hab9, by constructor <;> intro _ <;> first | trivial | omega⟩⟩ | exact ⟨Or.inr rfl, fun _ => Or.inl (hb3.2 (by omega))⟩
              · omega
            · have hab9 := hh_17
              refine ⟨fun _ => ?_, fun h => absurd (show (0 : Int) = 0 from by decide) h⟩
              refine hO (k_isLetter (by omega) (fun (hh_18 : 0 ≤ s) (hh_19 : s < 26) => ?_) (fun (hh_20 : ¬ (0 ≤ s ∧ s < 26)) => ?_))
              · refine ⟨fun h => absurd (show (1 : Int) = 0 from h) (by decide), fun _ => ?_⟩
                refine hF (31 * (13 - i) - s : Int).toNat ?_ (Or.inr (Or.inr (Or.inr (Or.inl ⟨rfl, i, c, l3, l4, s, 1, f1, rfl, rfl, rfl, rfl, ?_, ?_, ?_, ?_, ?_, ?_, ?_, ?_, ?_⟩))))
                · omega
                · omega
                · exact hD
                · omega
                · exact hC
                · omega
                · exact hb3
                · exact hb4
                · first | exact ⟨Or.inl rfl, fun h => by omega⟩ | exact ⟨Or.inr rfl, fun _ => Or.inr ⟨hab9, by constructor <;> intro _ <;> first | trivial | omega⟩⟩ | exact ⟨Or.inr rfl, fun _ => Or.inl (hb3.2 (by omega))⟩
                · omega
              · refine ⟨fun _ => ?_, fun h => absurd (show (0 : Int) = 0 from by decide) h⟩
                refine hF (31 * (13 - i) - s : Int).toNat ?_ (Or.inr (Or.inr (Or.inr (Or.inl ⟨rfl, i, c, l3, l4, s, 0, f1, rfl, rfl, rfl, rfl, ?_, ?_, ?_, ?_, ?_, ?_, ?_, ?_, ?_⟩))))
                · omega
                · omega
                · exact hD
                · omega
                · exact hC
                · omega
                · exact hb3
                · exact hb4
                · first | exact ⟨Or.inl rfl, fun h => by omega⟩ | exact ⟨Or.inr rfl, fun _ => Or.inr ⟨hab9, by constructor <;> intro _ <;> first | trivial | omega⟩⟩ | exact ⟨Or.inr rfl, fun _ => Or.inl (hb3.2 (by omega))⟩
                · omega
          · refine hF (31 * (13 - i) - s : Int).toNat ?_ (Or.inr (Or.inr (Or.inr (Or.inl ⟨rfl, i, c, l3, l4, s, 1, f1, rfl, rfl, rfl, rfl, ?_, ?_, ?_, ?_, ?_, ?_, ?_, ?_, ?_⟩))))
            · omega
            · omega
            · exact hD
            · omega
            · exact hC
            · omega
            · exact hb3
            · exact hb4
            · first | exact ⟨Or.inl rfl, fun h => by omega⟩ | exact ⟨Or.inr rfl, fun _ => Or.inr ⟨hab9, by constructor <;> intro _ <;> first | trivial | omega⟩⟩ | exact ⟨Or.inr rfl, fun _ => Or.inl (hb3.2 (by omega))⟩
            · omega
        · refine ⟨show inr (s + 1) from by constructor <;> omega, ?_⟩
          refine hB (31 * (13 - i) - (s + 1) : Int).toNat ?_ (Or.inr (Or.inl ⟨rfl, i, c, l3, l4, (s + 1), f1, rfl, rfl, rfl, rfl, ?_, ?_, ?_, ?_, ?_, ?_, ?_, ?_⟩))
          · omega
          · omega
          · exact hD
          · omega
          · first | exact chP_same hC (by omega) | exact chP_skip hC (hx.2 (by omega)).1 (hx.2 (by omega)).2
          · omega
          · exact hb3
          · exact hb4
          · omega
    · obtain ⟨rfl, i, c, l3, l4, s, x6, f1, rfl, rfl, rfl, rfl, hi, hD, hc, hC, hs, hb3, hb4, hx, hm⟩ := hI
      have hrw1 := hrw.1
      have hri := hrw.2 i (by omega) (by omega)
      refine ⟨fun (hh_21 : l4 = 0) => ?_, fun (hh_21 : ¬ l4 = 0) => ?_⟩
      · refine hO (k_isAble (by omega) (show (abOK f) from hab) (fun (hh_22 : (aC f) s = true) => ?_) (fun (hh_23 : (aC f) s = false) => ?_))
        · refine ⟨fun h => absurd (show (1 : Int) = 0 from h) (by decide), fun _ => ?_⟩
          refine hF (31 * (13 - i) - s : Int).toNat ?_ (Or.inr (Or.inr (Or.inr (Or.inr (⟨rfl, i, c, x6, l4, s, 0, f1, rfl, rfl, rfl, rfl, ?_, ?_, ?_, ?_, ?_, ?_, ?_, ?_, ?_⟩)))))
          · omega
          · omega
          · exact hD
          · omega
          · exact hC
          · omega
          · first | exact hb3 | exact hx
          · exact hb4
          · first | exact ⟨Or.inl rfl, fun h => by omega⟩ | exact ⟨Or.inr rfl, fun _ => Or.inr ⟨hab9, by constructor <;> intro _ <;> first | trivial | omega⟩⟩ | exact ⟨Or.inr rfl, fun _ => Or.inl (hb4.2 (by omega))⟩
          · omega
        · have hab9 := hh_23
          refine ⟨fun _ => ?_, fun h => absurd (show (0 : Int) = 0 from by decide) h⟩
          refine hO (k_isLetter (by omega) (fun (hh_24 : 0 ≤ s) (hh_25 : s < 26) => ?_) (fun (hh_26 : ¬ (0 ≤ s ∧ s < 26)) => ?_))
          · refine ⟨fun h => absurd (show (1 : Int) = 0 from h) (by decide), fun _ => ?_⟩
            refine hF (31 * (13 - i) - s : Int).toNat ?_ (Or.inr (Or.inr (Or.inr (Or.inr (⟨rfl, i, c, x6, l4, s, 0, f1, rfl, rfl, rfl, rfl, ?_, ?_, ?_, ?_, ?_, ?_, ?_, ?_, ?_⟩)))))
            · omega
            · omega
            · exact hD
            · omega
            · exact hC
            · omega
            · first | exact hb3 | exact hx
            · exact hb4
            · first | exact ⟨Or.inl rfl, fun h => by omega⟩ | exact ⟨Or.inr rfl, fun _ => Or.inr ⟨hab9, by constructor <;> intro _ <;> first | trivial | omega⟩⟩ | exact ⟨Or.inr rfl, fun _ => Or.inl (hb4.2 (by omega))⟩
            · omega
          · refine ⟨fun _ => ?_, fun h => absurd (show (0 : Int) = 0 from by decide) h⟩
            refine hF (31 * (13 - i) - s : Int).toNat ?_ (Or.inr (Or.inr (Or.inr (Or.inr (⟨rfl, i, c, x6, l4, s, 1, f1, rfl, rfl, rfl, rfl, ?_, ?_, ?_, ?_, ?_, ?_, ?_, ?_, ?_⟩)))))
            · omega
            · omega
            · exact hD
            · omega
            · exact hC
            · omega
            · first | exact hb3 | exact hx
            · exact hb4
            · first | exact ⟨Or.inl rfl, fun h => by omega⟩ | exact ⟨Or.inr rfl, fun _ => Or.inr ⟨hab9, by constructor <;> intro _ <;> first | trivial | omega⟩⟩ | exact ⟨Or.inr rfl, fun _ => Or.inl (hb4.2 (by omega))⟩
            · omega
      · refine hF (31 * (13 - i) - s : Int).toNat ?_ (Or.inr (Or.inr (Or.inr (Or.inr (⟨rfl, i, c, x6, l4, s, 1, f1, rfl, rfl, rfl, rfl, ?_, ?_, ?_, ?_, ?_, ?_, ?_, ?_, ?_⟩)))))
        · omega
        · omega
        · exact hD
        · omega
        · exact hC
        · omega
        · first | exact hb3 | exact hx
        · exact hb4
        · first | exact ⟨Or.inl rfl, fun h => by omega⟩ | exact ⟨Or.inr rfl, fun _ => Or.inr ⟨hab9, by constructor <;> intro _ <;> first | trivial | omega⟩⟩ | exact ⟨Or.inr rfl, fun _ => Or.inl (hb4.2 (by omega))⟩
        · omega
    · obtain ⟨rfl, i, c, l3, l4, s, x6, f1, rfl, rfl, rfl, rfl, hi, hD, hc, hC, hs, hb3, hb4, hx, hm⟩ := hI
      have hrw1 := hrw.1
      have hri := hrw.2 i (by omega) (by omega)
      refine Or.inl ⟨show inr (i * 29) from by constructor <;> omega, ?_⟩
      refine Or.inl ⟨show inr ((i * 29) + c) from by constructor <;> omega, ?_⟩
      refine ⟨show 0 ≤ (((i * 29) + c) : Int) ∧ ((i * 29) + c) < 348 from by omega, ?_⟩
      refine ⟨show inr (c + 1) from by constructor <;> omega, ?_⟩
      refine ⟨show inr (s + 1) from by constructor <;> omega, ?_⟩
      refine hB (31 * (13 - i) - (s + 1) : Int).toNat ?_ (Or.inr (Or.inl ⟨rfl, i, (c + 1), l3, x6, (s + 1), (wv f1 66 ((i * 29) + c) s), rfl, rfl, (mx_wv rfl rfl), rfl, ?_, ?_, ?_, ?_, ?_, ?_, ?_, ?_⟩))
      · omega
      · omega
      · intro o h0 h1
        have q := hD o h0 h1
        exact ⟨q.1, q.2.1, chP_cg (c := f1 67 o) (fun k k0 k1 => wv_k (by omega)) q.2.2⟩
      · omega
      · have hwo : ∀ q, 0 ≤ q → q < c → wv f1 66 (i * 29 + c) s 66 (i * 29 + q) = f1 66 (i * 29 + q) := fun q h0 h1 => wv_k (by omega)
        exact chP_add hC (by omega) (by omega) ⟨by omega, by omega⟩ hwo wv_s
      · omega
      · have hwo : ∀ q, 0 ≤ q → q < c → wv f1 66 (i * 29 + c) s 66 (i * 29 + q) = f1 66 (i * 29 + q) := fun q h0 h1 => wv_k (by omega)
        exact ⟨hb3.1, fun h => flP_add (by omega) hwo wv_s (hb3.2 h)⟩
      · have hwo : ∀ q, 0 ≤ q → q < c → wv f1 66 (i * 29 + c) s 66 (i * 29 + q) = f1 66 (i * 29 + q) := fun q h0 h1 => wv_k (by omega)
        exact ⟨hx.1, fun h => flP_add (by omega) hwo wv_s (hx.2 h)⟩
      · omega
  · have hrw1 := hrw.1
    refine hF (31 * (13 - 0) : Int).toNat ?_ (Or.inl ⟨rfl, 0, f, rfl, rfl, mx_rf, rfl, ?_, ?_, ?_⟩)
    · omega
    · omega
    · intro o h0 h1; omega
    · omega
end C34
