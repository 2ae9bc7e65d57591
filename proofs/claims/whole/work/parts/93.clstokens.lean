section C37
variable {d : Nat} {f : iF} {g : iG} {Q : Option iv → iF → iG → Prop}
/-! ===== the class: tokens of a text ===== -/
theorem skp_t {t : Int → Int} {len a : Int} (h : a < len) (hb : t a = 32 ∨ t a = 10) : skp t len a = skp t len (a + 1) := wlk_t (p := fun k => blk (t k)) h (blk_t.mpr hb)
theorem ent_dg {t : Int → Int} {len a : Int} (h2 : dgt (t a) = true) : ∀ x, a ≤ x → x < ent t len a → dgt (t x) = true := by
  intro x x0 x1
  have h1 : ¬ ltr (t a) = true := by
    intro h
    have := ltr_t.mp h
    have := dgt_t.mp h2
    omega
  by_cases e : x = a
  · rw [e]; exact h2
  · unfold ent at x1
    rw [if_neg h1, if_pos h2] at x1
    exact wlk_in (p := fun k => dgt (t k)) (len := len) (a := a + 1) (by omega) x1
/-- how far a token's end is found -/
def enP (t : Int → Int) (len a wd nm e : Int) : Prop := ((wd = 1 ∧ ltr (t a) = true ∧ ent t len a = wlk (fun k => ltr (t k)) len e) ∨ (wd = 0 ∧ ¬ ltr (t a) = true)) ∧ ((nm = 1 ∧ dgt (t a) = true) ∨ (nm = 0 ∧ ¬ dgt (t a) = true)) ∧ (wd = 0 → nm = 1 → ent t len a = wlk (fun k => dgt (t k)) len e) ∧ (wd = 0 → nm = 0 → ent t len a = e)
theorem enP_0 {t : Int → Int} {len a wd nm : Int} (hw : (wd = 1 ∧ ltr (t a) = true) ∨ (wd = 0 ∧ ¬ ltr (t a) = true)) (hn : (nm = 1 ∧ dgt (t a) = true) ∨ (nm = 0 ∧ ¬ dgt (t a) = true)) : enP t len a wd nm (a + 1) := by
  refine ⟨?_, hn, fun h1 h2 => ?_, fun h1 h2 => ?_⟩
  · rcases hw with h | h
    · exact Or.inl ⟨h.1, h.2, by unfold ent; rw [if_pos h.2]⟩
    · exact Or.inr h
  · unfold ent
    rw [if_neg (by rcases hw with h | h; omega; exact h.2), if_pos (by rcases hn with h | h; exact h.2; omega)]
  · unfold ent
    rw [if_neg (by rcases hw with h | h; omega; exact h.2), if_neg (by rcases hn with h | h; omega; exact h.2)]
theorem enP_end {t : Int → Int} {len a wd nm e : Int} (h : enP t len a wd nm e) (hx : ¬ e < len ∨ ((wd = 0 ∨ ¬ ((97 ≤ t e ∧ t e ≤ 122) ∨ (65 ≤ t e ∧ t e ≤ 90))) ∧ (nm = 0 ∨ ¬ (48 ≤ t e ∧ t e ≤ 57)))) : ent t len a = e := by
  obtain ⟨h1, h2, h3, h4⟩ := h
  rcases h1 with ⟨e1, e2, e3⟩ | ⟨e1, e2⟩
  · rw [e3]
    refine wlk_f (fun q => ?_)
    have := ltr_t.mp q.2
    omega
  · rcases h2 with ⟨e4, e5⟩ | ⟨e4, e5⟩
    · rw [h3 e1 e4]
      refine wlk_f (fun q => ?_)
      have := dgt_t.mp q.2
      omega
    · exact h4 e1 e4
theorem enP_go {t : Int → Int} {len a wd nm e : Int} (h : enP t len a wd nm e) (he : e < len) (hx : (wd = 1 ∧ ((97 ≤ t e ∧ t e ≤ 122) ∨ (65 ≤ t e ∧ t e ≤ 90))) ∨ (nm = 1 ∧ (48 ≤ t e ∧ t e ≤ 57))) : enP t len a wd nm (e + 1) := by
  obtain ⟨h1, h2, h3, h4⟩ := h
  have hex : ¬ (ltr (t a) = true ∧ dgt (t a) = true) := by
    rintro ⟨q1, q2⟩
    have := ltr_t.mp q1
    have := dgt_t.mp q2
    omega
  refine ⟨?_, h2, fun q1 q2 => ?_, fun q1 q2 => ?_⟩
  · rcases h1 with ⟨e1, e2, e3⟩ | ⟨e1, e2⟩
    · rcases hx with q | q
      · exact Or.inl ⟨e1, e2, by rw [e3]; exact wlk_t he (ltr_t.mpr q.2)⟩
      · rcases h2 with ⟨e4, e5⟩ | ⟨e4, e5⟩
        · exact absurd ⟨e2, e5⟩ hex
        · omega
    · exact Or.inr ⟨e1, e2⟩
  · rw [h3 q1 q2]
    exact wlk_t he (dgt_t.mpr (by omega))
  · omega
/-- the rows of kinds and places hold the tokens -/
def tkC (kn pl t : Int → Int) (len N : Int) : Prop := 0 ≤ N ∧ N ≤ 400 ∧ pl 0 = skp t len 0 ∧ (∀ m, 0 ≤ m → m ≤ N → kn m = kdP t len (pl m) ∧ 0 ≤ pl m ∧ pl m ≤ len) ∧ (∀ m, 0 ≤ m → m < N → ¬ kn m = 0 ∧ pl (m + 1) = nxP t len (pl m)) ∧ kn N = 0
def tpB (t : Int → Int) (len : Int) : Prop := (0 ≤ len ∧ len ≤ 400) ∧ ∀ k, 0 ≤ k → k < len → 0 ≤ t k ∧ t k ≤ 255
set_option maxRecDepth 100000 in
set_option maxHeartbeats 4000000 in
theorem k_ends {at9 : Int} (hd : 3 ≤ d) (ha : 0 ≤ at9 ∧ at9 < (f (fv 39 1) 0)) (htp : tpB (f 40) (f (fv 39 1) 0)) (k0 : Q (some (iI (ent (f 40) (f (fv 39 1) 0) at9))) f g) : wq d 125 [iR 41, iI at9] f g Q := by
  obtain ⟨d, rfl⟩ : ∃ e, d = e + 1 := ⟨d - 1, by omega⟩
  refine i_meth [(16, 5)] (fun n j lv st f' g' => (j = 16 ∧ ∃ (wd9 : Int) (nm9 : Int) (en9 : Int), lv = [some (iR 41), some (iI at9), some (iI wd9), some (iI nm9), some (iI en9)] ∧ st = [] ∧ f = f' ∧ g = g' ∧ (at9 + 1 ≤ en9 ∧ en9 ≤ f (fv 39 1) 0) ∧ (enP (f 40) (f (fv 39 1) 0) at9 wd9 nm9 en9) ∧ (n : Int) = 400 - en9)) 402 (by omega) rfl rfl (fun n j lv st f' g' hn hI O J hO hF hB => ?_) (fun hvs hin O J hO hF => ?_)
  · obtain ⟨rfl, wd9, nm9, en9, rfl, rfl, rfl, rfl, he, hE, hm⟩ := hI
    have htp1 := htp.1
    have hw01 : wd9 = 1 ∨ wd9 = 0 := hE.1.imp (fun q => q.1) (fun q => q.1)
    have hn01 : nm9 = 1 ∨ nm9 = 0 := hE.2.1.imp (fun q => q.1) (fun q => q.1)
    refine ⟨fun (hh_1 : en9 < f (fv 39 1) 0) => ?_, fun (hh_1 : ¬ en9 < f (fv 39 1) 0) => ?_⟩
    · refine ⟨fun (hh_2 : wd9 = 0) => ?_, fun (hh_2 : ¬ wd9 = 0) => ?_⟩
      · refine ⟨fun (hh_3 : nm9 = 0) => ?_, fun (hh_3 : ¬ nm9 = 0) => ?_⟩
        · have hz := enP_end hE (by omega)
          have hk := k0
          rw [hz] at hk
          exact hk
        · refine hO (k_get_tp (by omega) (show 0 ≤ en9 ∧ en9 < 400 from by omega) ?_)
          refine hO (k_isDigit (by omega) (fun (hh_4 : 48 ≤ (f 40 en9)) (hh_5 : (f 40 en9) ≤ 57) => ?_) (fun (hh_6 : ¬ (48 ≤ (f 40 en9) ∧ (f 40 en9) ≤ 57)) => ?_))
          · refine ⟨fun h => absurd (show (1 : Int) = 0 from h) (by decide), fun _ => ?_⟩
            refine ⟨show inr (en9 + 1) from by constructor <;> omega, ?_⟩
            refine hB (400 - (en9 + 1) : Int).toNat ?_ ⟨rfl, wd9, nm9, (en9 + 1), rfl, rfl, rfl, rfl, ?_, ?_, ?_⟩
            · omega
            · omega
            · exact enP_go hE (by omega) (by omega)
            · omega
          · refine ⟨fun _ => ?_, fun h => absurd (show (0 : Int) = 0 from by decide) h⟩
            have hz := enP_end hE (by omega)
            have hk := k0
            rw [hz] at hk
            exact hk
      · refine hO (k_get_tp (by omega) (show 0 ≤ en9 ∧ en9 < 400 from by omega) ?_)
        refine hO (k_isLetTx (by omega) (fun (hh_7 : (97 ≤ (f 40 en9) ∧ (f 40 en9) ≤ 122 ∨ 65 ≤ (f 40 en9) ∧ (f 40 en9) ≤ 90)) => ?_) (fun (hh_8 : ¬ ((97 ≤ (f 40 en9) ∧ (f 40 en9) ≤ 122 ∨ 65 ≤ (f 40 en9) ∧ (f 40 en9) ≤ 90))) => ?_))
        · refine ⟨fun h => absurd (show (1 : Int) = 0 from h) (by decide), fun _ => ?_⟩
          refine ⟨show inr (en9 + 1) from by constructor <;> omega, ?_⟩
          refine hB (400 - (en9 + 1) : Int).toNat ?_ ⟨rfl, wd9, nm9, (en9 + 1), rfl, rfl, rfl, rfl, ?_, ?_, ?_⟩
          · omega
          · omega
          · exact enP_go hE (by omega) (by omega)
          · omega
        · refine ⟨fun _ => ?_, fun h => absurd (show (0 : Int) = 0 from by decide) h⟩
          refine ⟨fun (hh_9 : nm9 = 0) => ?_, fun (hh_9 : ¬ nm9 = 0) => ?_⟩
          · have hz := enP_end hE (by omega)
            have hk := k0
            rw [hz] at hk
            exact hk
          · refine hO (k_get_tp (by omega) (show 0 ≤ en9 ∧ en9 < 400 from by omega) ?_)
            refine hO (k_isDigit (by omega) (fun (hh_10 : 48 ≤ (f 40 en9)) (hh_11 : (f 40 en9) ≤ 57) => ?_) (fun (hh_12 : ¬ (48 ≤ (f 40 en9) ∧ (f 40 en9) ≤ 57)) => ?_))
            · refine ⟨fun h => absurd (show (1 : Int) = 0 from h) (by decide), fun _ => ?_⟩
              refine ⟨show inr (en9 + 1) from by constructor <;> omega, ?_⟩
              refine hB (400 - (en9 + 1) : Int).toNat ?_ ⟨rfl, wd9, nm9, (en9 + 1), rfl, rfl, rfl, rfl, ?_, ?_, ?_⟩
              · omega
              · omega
              · exact enP_go hE (by omega) (by omega)
              · omega
            · refine ⟨fun _ => ?_, fun h => absurd (show (0 : Int) = 0 from by decide) h⟩
              have hz := enP_end hE (by omega)
              have hk := k0
              rw [hz] at hk
              exact hk
    · have hz := enP_end hE (by omega)
      have hk := k0
      rw [hz] at hk
      exact hk
  · have htp1 := htp.1
    refine hO (k_get_tp (by omega) (show 0 ≤ at9 ∧ at9 < 400 from by omega) ?_)
    refine hO (k_isLetTx (by omega) (fun (hh_13 : (97 ≤ (f 40 at9) ∧ (f 40 at9) ≤ 122 ∨ 65 ≤ (f 40 at9) ∧ (f 40 at9) ≤ 90)) => ?_) (fun (hh_14 : ¬ ((97 ≤ (f 40 at9) ∧ (f 40 at9) ≤ 122 ∨ 65 ≤ (f 40 at9) ∧ (f 40 at9) ≤ 90))) => ?_))
    · refine hO (k_get_tp (by omega) (show 0 ≤ at9 ∧ at9 < 400 from by omega) ?_)
      refine hO (k_isDigit (by omega) (fun (hh_15 : 48 ≤ (f 40 at9)) (hh_16 : (f 40 at9) ≤ 57) => ?_) (fun (hh_17 : ¬ (48 ≤ (f 40 at9) ∧ (f 40 at9) ≤ 57)) => ?_))
      · refine Or.inl ⟨show inr (at9 + 1) from by constructor <;> omega, ?_⟩
        refine hF (400 - (at9 + 1) : Int).toNat ?_ ⟨rfl, 1, 1, (at9 + 1), rfl, rfl, rfl, rfl, ?_, ?_, ?_⟩
        · omega
        · omega
        · refine enP_0 ?_ ?_
          · rw [ltr_t]; omega
          · rw [dgt_t]; omega
        · omega
      · refine Or.inl ⟨show inr (at9 + 1) from by constructor <;> omega, ?_⟩
        refine hF (400 - (at9 + 1) : Int).toNat ?_ ⟨rfl, 1, 0, (at9 + 1), rfl, rfl, rfl, rfl, ?_, ?_, ?_⟩
        · omega
        · omega
        · refine enP_0 ?_ ?_
          · rw [ltr_t]; omega
          · rw [dgt_t]; omega
        · omega
    · refine hO (k_get_tp (by omega) (show 0 ≤ at9 ∧ at9 < 400 from by omega) ?_)
      refine hO (k_isDigit (by omega) (fun (hh_18 : 48 ≤ (f 40 at9)) (hh_19 : (f 40 at9) ≤ 57) => ?_) (fun (hh_20 : ¬ (48 ≤ (f 40 at9) ∧ (f 40 at9) ≤ 57)) => ?_))
      · refine Or.inl ⟨show inr (at9 + 1) from by constructor <;> omega, ?_⟩
        refine hF (400 - (at9 + 1) : Int).toNat ?_ ⟨rfl, 0, 1, (at9 + 1), rfl, rfl, rfl, rfl, ?_, ?_, ?_⟩
        · omega
        · omega
        · refine enP_0 ?_ ?_
          · rw [ltr_t]; omega
          · rw [dgt_t]; omega
        · omega
      · refine Or.inl ⟨show inr (at9 + 1) from by constructor <;> omega, ?_⟩
        refine hF (400 - (at9 + 1) : Int).toNat ?_ ⟨rfl, 0, 0, (at9 + 1), rfl, rfl, rfl, rfl, ?_, ?_, ?_⟩
        · omega
        · omega
        · refine enP_0 ?_ ?_
          · rw [ltr_t]; omega
          · rw [dgt_t]; omega
        · omega
set_option maxRecDepth 100000 in
set_option maxHeartbeats 4000000 in
theorem k_isKey {fr9 at9 en9 : Int} (hd : 10 ≤ d) (hfr : 0 ≤ fr9 ∧ fr9 ≤ 65) (ha : 0 ≤ at9 ∧ at9 < en9 ∧ en9 ≤ (f (fv 39 1) 0)) (hl4 : (f (fv 39 1) 0) ≤ 400) (k0 : (∀ i, 0 ≤ i → i < 5 → kwd (fr9 + i) = wch (f 40) at9 en9 i) → Q (some (iI 1)) f g) (k1 : (¬ (∀ i, 0 ≤ i → i < 5 → kwd (fr9 + i) = wch (f 40) at9 en9 i)) → Q (some (iI 0)) f g) : wq d 128 [iR 41, iI fr9, iI at9, iI en9] f g Q := by
  obtain ⟨d, rfl⟩ : ∃ e, d = e + 1 := ⟨d - 1, by omega⟩
  refine i_meth [(2, 5)] (fun n j lv st f' g' => (j = 2 ∧ ∃ (ii9 : Int), lv = [some (iR 41), some (iI fr9), some (iI at9), some (iI en9), some (iI ii9)] ∧ st = [] ∧ f = f' ∧ g = g' ∧ (0 ≤ ii9 ∧ ii9 ≤ 5) ∧ (∀ i, 0 ≤ i → i < ii9 → kwd (fr9 + i) = wch (f 40) at9 en9 i) ∧ (n : Int) = 5 - ii9)) 6 (by omega) rfl rfl (fun n j lv st f' g' hn hI O J hO hF hB => ?_) (fun hvs hin O J hO hF => ?_)
  · obtain ⟨rfl, ii9, rfl, rfl, rfl, rfl, hi, hz, hm⟩ := hI
    refine ⟨fun (hh_1 : ii9 < 5) => ?_, fun (hh_1 : ¬ ii9 < 5) => ?_⟩
    · refine Or.inl ⟨show inr (fr9 + ii9) from by constructor <;> omega, ?_⟩
      refine hO (k_len1 (by omega) ?_)
      refine ⟨fun _ => ?_, fun h => absurd (show (fr9 + ii9) < 70 from by omega) h⟩
      refine Or.inl ⟨show inr (at9 + ii9) from by constructor <;> omega, ?_⟩
      refine ⟨fun (hh_2 : (at9 + ii9) < en9) => ?_, fun (hh_2 : ¬ (at9 + ii9) < en9) => ?_⟩
      · refine Or.inl ⟨show inr (at9 + ii9) from by constructor <;> omega, ?_⟩
        refine hO (k_get_tp (by omega) (show 0 ≤ (at9 + ii9) ∧ (at9 + ii9) < 400 from by omega) ?_)
        refine Or.inl ⟨show inr (fr9 + ii9) from by constructor <;> omega, ?_⟩
        refine hO (k_charAt (by omega) (show 0 ≤ (fr9 + ii9) ∧ (fr9 + ii9) < 70 from by omega) ?_)
        refine ⟨fun (hh_3 : kwd (fr9 + ii9) = (f 40 (at9 + ii9))) => ?_, fun (hh_3 : ¬ kwd (fr9 + ii9) = (f 40 (at9 + ii9))) => ?_⟩
        · refine ⟨show inr (ii9 + 1) from by constructor <;> omega, ?_⟩
          refine hB (5 - (ii9 + 1) : Int).toNat ?_ ⟨rfl, (ii9 + 1), rfl, rfl, rfl, rfl, ?_, ?_, ?_⟩
          · omega
          · omega
          · intro i h0 h1
            by_cases e : i = ii9
            · rw [e]; unfold wch; first | (rw [if_pos (by omega)]; omega) | (rw [if_neg (by omega)]; omega)
            · exact hz i h0 (by omega)
          · omega
        · refine ⟨show (0 : Int) = 0 ∨ 0 = 1 from by decide, ?_⟩
          refine k1 (fun q => ?_)
          have q1 := q ii9 (by omega) (by omega)
          unfold wch at q1
          first | (rw [if_pos (by omega)] at q1; omega) | (rw [if_neg (by omega)] at q1; omega)
      · refine Or.inl ⟨show inr (fr9 + ii9) from by constructor <;> omega, ?_⟩
        refine hO (k_charAt (by omega) (show 0 ≤ (fr9 + ii9) ∧ (fr9 + ii9) < 70 from by omega) ?_)
        refine ⟨fun (hh_4 : kwd (fr9 + ii9) = 32) => ?_, fun (hh_4 : ¬ kwd (fr9 + ii9) = 32) => ?_⟩
        · refine ⟨show inr (ii9 + 1) from by constructor <;> omega, ?_⟩
          refine hB (5 - (ii9 + 1) : Int).toNat ?_ ⟨rfl, (ii9 + 1), rfl, rfl, rfl, rfl, ?_, ?_, ?_⟩
          · omega
          · omega
          · intro i h0 h1
            by_cases e : i = ii9
            · rw [e]; unfold wch; first | (rw [if_pos (by omega)]; omega) | (rw [if_neg (by omega)]; omega)
            · exact hz i h0 (by omega)
          · omega
        · refine ⟨show (0 : Int) = 0 ∨ 0 = 1 from by decide, ?_⟩
          refine k1 (fun q => ?_)
          have q1 := q ii9 (by omega) (by omega)
          unfold wch at q1
          first | (rw [if_pos (by omega)] at q1; omega) | (rw [if_neg (by omega)] at q1; omega)
    · refine ⟨show (1 : Int) = 0 ∨ 1 = 1 from by decide, ?_⟩
      exact k0 (fun i h0 h1 => hz i h0 (by omega))
  · refine hF (5 - 0 : Int).toNat ?_ ⟨rfl, 0, rfl, rfl, rfl, rfl, ?_, ?_, ?_⟩
    · omega
    · omega
    · intro i h0 h1; omega
    · omega
set_option maxRecDepth 100000 in
set_option maxHeartbeats 4000000 in
theorem k_kw {at9 en9 : Int} (hd : 11 ≤ d) (ha : 0 ≤ at9 ∧ at9 < en9 ∧ en9 ≤ (f (fv 39 1) 0)) (hl4 : (f (fv 39 1) 0) ≤ 400) (k0 : Q (some (iI (kwI (f 40) at9 en9))) f g) : wq d 127 [iR 41, iI at9, iI en9] f g Q := by
  obtain ⟨d, rfl⟩ : ∃ e, d = e + 1 := ⟨d - 1, by omega⟩
  refine i_meth [(9, 4)] (fun n j lv st f' g' => (j = 9 ∧ ∃ (kk9 : Int), lv = [some (iR 41), some (iI at9), some (iI en9), some (iI kk9)] ∧ st = [] ∧ f = f' ∧ g = g' ∧ (0 ≤ kk9 ∧ kk9 ≤ 14) ∧ (en9 - at9 ≤ 5) ∧ (kwF (f 40) at9 en9 kk9 = kwI (f 40) at9 en9) ∧ (n : Int) = 14 - kk9)) 16 (by omega) rfl rfl (fun n j lv st f' g' hn hI O J hO hF hB => ?_) (fun hvs hin O J hO hF => ?_)
  · obtain ⟨rfl, kk9, rfl, rfl, rfl, rfl, hk, h5, hz, hm⟩ := hI
    refine Or.inl ⟨show inr (kk9 * 5) from by constructor <;> omega, ?_⟩
    refine hO (k_len1 (by omega) ?_)
    refine ⟨fun (hh_1 : (kk9 * 5) < 70) => ?_, fun (hh_1 : ¬ (kk9 * 5) < 70) => ?_⟩
    · refine Or.inl ⟨show inr (kk9 * 5) from by constructor <;> omega, ?_⟩
      refine hO (k_isKey (by omega) (show 0 ≤ (kk9 * 5) ∧ (kk9 * 5) ≤ 65 from by omega) (show 0 ≤ at9 ∧ at9 < en9 ∧ en9 ≤ (f (fv 39 1) 0) from ha) (show (f (fv 39 1) 0) ≤ 400 from hl4) (fun (hh_2 : ∀ i, 0 ≤ i → i < 5 → kwd ((kk9 * 5) + i) = wch (f 40) at9 en9 i) => ?_) (fun (hh_3 : ¬ (∀ i, 0 ≤ i → i < 5 → kwd ((kk9 * 5) + i) = wch (f 40) at9 en9 i)) => ?_))
      · have hyes := hh_2
        refine ⟨fun h => absurd (show (1 : Int) = 0 from h) (by decide), fun _ => ?_⟩
        refine Or.inl ⟨show inr (3 + kk9) from by constructor <;> omega, ?_⟩
        have hk0 := k0
        rw [← hz, kwF_t (by omega) (kwb_t.mpr ⟨h5, hyes⟩)] at hk0
        exact hk0
      · have hno := hh_3
        refine ⟨fun _ => ?_, fun h => absurd (show (0 : Int) = 0 from by decide) h⟩
        refine ⟨show inr (kk9 + 1) from by constructor <;> omega, ?_⟩
        refine hB (14 - (kk9 + 1) : Int).toNat ?_ ⟨rfl, (kk9 + 1), rfl, rfl, rfl, rfl, ?_, ?_, ?_, ?_⟩
        · omega
        · omega
        · omega
        · rw [← hz]; exact (kwF_f (by omega) (fun q => hno (kwb_t.mp q).2)).symm
        · omega
    · have hk0 := k0
      rw [← hz, kwF_e (by omega)] at hk0
      exact hk0
  · refine Or.inl ⟨show inr (en9 - at9) from by constructor <;> omega, ?_⟩
    refine ⟨fun (hh_4 : 5 < (en9 - at9)) => ?_, fun (hh_4 : ¬ 5 < (en9 - at9)) => ?_⟩
    · have hk0 := k0
      rw [kwI_far (by omega)] at hk0
      exact hk0
    · refine hF (14 - 0 : Int).toNat ?_ ⟨rfl, 0, rfl, rfl, rfl, rfl, ?_, ?_, ?_, ?_⟩
      · omega
      · omega
      · omega
      · exact kwF_0
      · omega
set_option maxRecDepth 100000 in
set_option maxHeartbeats 4000000 in
theorem k_kind {at9 en9 : Int} (hd : 12 ≤ d) (ha : 0 ≤ at9 ∧ at9 < (f (fv 39 1) 0)) (he : en9 = ent (f 40) (f (fv 39 1) 0) at9) (htp : tpB (f 40) (f (fv 39 1) 0)) (k0 : Q (some (iI (kdI (f 40) at9 en9))) f g) : wq d 126 [iR 41, iI at9, iI en9] f g Q := by
  obtain ⟨d, rfl⟩ : ∃ e, d = e + 1 := ⟨d - 1, by omega⟩
  refine i_meth [(36, 6)] (fun n j lv st f' g' => (j = 36 ∧ ∃ (cc9 : Int) (vv9 : Int) (ii9 : Int), lv = [some (iR 41), some (iI at9), some (iI en9), some (iI cc9), some (iI vv9), some (iI ii9)] ∧ st = [] ∧ f = f' ∧ g = g' ∧ (¬ ltr (f 40 at9) = true) ∧ (dgt (f 40 at9) = true) ∧ (en9 - at9 ≤ 4) ∧ (at9 ≤ ii9 ∧ ii9 ≤ en9) ∧ (vv9 = vlI (f 40) at9 ii9) ∧ (n : Int) = 4 - (ii9 - at9))) 6 (by omega) rfl rfl (fun n j lv st f' g' hn hI O J hO hF hB => ?_) (fun hvs hin O J hO hF => ?_)
  · obtain ⟨rfl, cc9, vv9, ii9, rfl, rfl, rfl, rfl, hlt, hdg, h4, hi, hv, hm⟩ := hI
    have htp1 := htp.1
    have hen := ent_r (t := f 40) ha.2
    have hdd := ent_dg (len := f (fv 39 1) 0) hdg
    have hvr := vlI_r (t := f 40) hi.1 (by omega) (fun x x0 x1 => hdd x x0 (by omega))
    refine ⟨fun (hh_1 : ii9 < en9) => ?_, fun (hh_1 : ¬ ii9 < en9) => ?_⟩
    · have hdx := dgt_t.mp (hdd ii9 (by omega) (by omega))
      have hv3 := hvr.2.2 (by omega)
      rw [← hv] at hv3 hvr
      refine Or.inl ⟨show inr (vv9 * 10) from by constructor <;> omega, ?_⟩
      refine hO (k_get_tp (by omega) (show 0 ≤ ii9 ∧ ii9 < 400 from by omega) ?_)
      refine Or.inl ⟨show inr ((vv9 * 10) + (f 40 ii9)) from by constructor <;> omega, ?_⟩
      refine Or.inl ⟨show inr (((vv9 * 10) + (f 40 ii9)) - 48) from by constructor <;> omega, ?_⟩
      refine ⟨show inr (ii9 + 1) from by constructor <;> omega, ?_⟩
      refine hB (4 - ((ii9 + 1) - at9) : Int).toNat ?_ ⟨rfl, cc9, (((vv9 * 10) + (f 40 ii9)) - 48), (ii9 + 1), rfl, rfl, rfl, rfl, ?_, ?_, ?_, ?_, ?_, ?_⟩
      · omega
      · exact hlt
      · exact hdg
      · omega
      · omega
      · rw [vlI_s (by omega), ← hv]
      · omega
    · refine Or.inl ⟨show inr (1000 + vv9) from by constructor <;> (rw [← hv] at hvr; omega), ?_⟩
      have hk0 := k0
      unfold kdI at hk0
      rw [if_neg hlt, if_pos hdg, if_neg (by omega), show en9 = ii9 by omega, ← hv] at hk0
      exact hk0
  · have htp1 := htp.1
    have htb := htp.2 at9 ha.1 ha.2
    have hen := ent_r (t := f 40) ha.2
    refine hO (k_get_tp (by omega) (show 0 ≤ at9 ∧ at9 < 400 from by omega) ?_)
    refine hO (k_isLetTx (by omega) (fun (hh_2 : (97 ≤ (f 40 at9) ∧ (f 40 at9) ≤ 122 ∨ 65 ≤ (f 40 at9) ∧ (f 40 at9) ≤ 90)) => ?_) (fun (hh_3 : ¬ ((97 ≤ (f 40 at9) ∧ (f 40 at9) ≤ 122 ∨ 65 ≤ (f 40 at9) ∧ (f 40 at9) ≤ 90))) => ?_))
    · have hlt : ltr (f 40 at9) = true := ltr_t.mpr hh_2
      refine ⟨fun h => absurd (show (1 : Int) = 0 from h) (by decide), fun _ => ?_⟩
      refine hO (k_kw (by omega) (show 0 ≤ at9 ∧ at9 < en9 ∧ en9 ≤ (f (fv 39 1) 0) from by rw [he]; exact ⟨ha.1, hen⟩) (show (f (fv 39 1) 0) ≤ 400 from by omega) ?_)
      have hk0 := k0
      unfold kdI at hk0
      rw [if_pos hlt] at hk0
      exact hk0
    · have hlt : ¬ ltr (f 40 at9) = true := fun q => hh_3 (ltr_t.mp q)
      refine ⟨fun _ => ?_, fun h => absurd (show (0 : Int) = 0 from by decide) h⟩
      refine hO (k_isDigit (by omega) (fun (hh_4 : 48 ≤ (f 40 at9)) (hh_5 : (f 40 at9) ≤ 57) => ?_) (fun (hh_6 : ¬ (48 ≤ (f 40 at9) ∧ (f 40 at9) ≤ 57)) => ?_))
      · have hdg : dgt (f 40 at9) = true := dgt_t.mpr ⟨hh_4, hh_5⟩
        refine ⟨fun h => absurd (show (1 : Int) = 0 from h) (by decide), fun _ => ?_⟩
        refine Or.inl ⟨show inr (en9 - at9) from by constructor <;> omega, ?_⟩
        refine ⟨fun (hh_7 : 4 < (en9 - at9)) => ?_, fun (hh_7 : ¬ 4 < (en9 - at9)) => ?_⟩
        · have hk0 := k0
          unfold kdI at hk0
          rw [if_neg hlt, if_pos hdg, if_pos (by omega)] at hk0
          exact hk0
        · refine hF (4 - (at9 - at9) : Int).toNat ?_ ⟨rfl, (f 40 at9), 0, at9, rfl, rfl, rfl, rfl, ?_, ?_, ?_, ?_, ?_, ?_⟩
          · omega
          · exact hlt
          · exact hdg
          · omega
          · omega
          · exact vlI_0.symm
          · omega
      · have hdg : ¬ dgt (f 40 at9) = true := fun q => hh_6 (dgt_t.mp q)
        have hib := i2c_b htb
        refine ⟨fun _ => ?_, fun h => absurd (show (0 : Int) = 0 from by decide) h⟩
        refine hO (k_indexOf (by omega) (show 0 ≤ (b_i2c (f 40 at9)) ∧ (b_i2c (f 40 at9)) ≤ 255 from by rw [hib]; exact htb) (fun r_8 (hh_9 : mrk (b_i2c (f 40 at9)) = true) (hh_10 : 0 ≤ r_8) => ?_) (fun (hh_11 : mrk (b_i2c (f 40 at9)) = false) => ?_))
        · have hmk := hh_9
          rw [hib] at hmk
          refine ⟨fun (hh_12 : r_8 < 0) => ?_, fun (hh_12 : ¬ r_8 < 0) => ?_⟩
          · have hk0 := k0
            unfold kdI at hk0
            rw [if_neg hlt, if_neg hdg] at hk0
            first | (rw [if_pos hmk] at hk0; exact hk0) | (rw [if_neg hmk] at hk0; exact hk0) | (exfalso; omega)
          · have hk0 := k0
            unfold kdI at hk0
            rw [if_neg hlt, if_neg hdg] at hk0
            first | (rw [if_pos hmk] at hk0; exact hk0) | (rw [if_neg hmk] at hk0; exact hk0) | (exfalso; omega)
        · have hmk : ¬ mrk (f 40 at9) = true := by have q := hh_11; rw [hib] at q; rw [q]; decide
          refine ⟨fun _ => ?_, fun h => absurd (show ((-1) : Int) < 0 from by decide) h⟩
          have hk0 := k0
          unfold kdI at hk0
          rw [if_neg hlt, if_neg hdg] at hk0
          first | (rw [if_pos hmk] at hk0; exact hk0) | (rw [if_neg hmk] at hk0; exact hk0) | (exfalso; omega)
theorem spl_end {kn pl kn' pl' t : Int → Int} {len n a : Int} (hn : 0 ≤ n ∧ n ≤ a ∧ a ≤ len) (hl : len ≤ 400) (hS : (n = 0 → skp t len a = skp t len 0) ∧ (0 < n → skp t len a = nxP t len (pl (n - 1)))) (hP : ∀ m, 0 ≤ m → m < n → kn m = kdP t len (pl m) ∧ 0 ≤ pl m ∧ pl m ≤ len ∧ ¬ kn m = 0) (hG : ∀ m, 0 ≤ m → m + 1 < n → pl (m + 1) = nxP t len (pl m)) (h00 : 0 < n → pl 0 = skp t len 0) (ha : skp t len a = a) (k0 : ∀ m, ¬ m = n → kn' m = kn m) (k1 : ∀ m, ¬ m = n → pl' m = pl m) (k2 : pl' n = a) (k3 : kn' n = kdP t len a) : ((∀ m, 0 ≤ m → m < n + 1 → kn' m = kdP t len (pl' m) ∧ 0 ≤ pl' m ∧ pl' m ≤ len) ∧ (∀ m, 0 ≤ m → m < n → ¬ kn' m = 0) ∧ (∀ m, 0 ≤ m → m + 1 < n + 1 → pl' (m + 1) = nxP t len (pl' m)) ∧ pl' 0 = skp t len 0) := by
  refine ⟨fun m h0 h1 => ?_, fun m h0 h1 => ?_, fun m h0 h1 => ?_, ?_⟩
  · by_cases e : m = n
    · rw [e, k2, k3]; exact ⟨rfl, by omega, by omega⟩
    · have := hP m h0 (by omega)
      rw [k0 m e, k1 m e]
      exact ⟨this.1, this.2.1, this.2.2.1⟩
  · rw [k0 m (by omega)]; exact (hP m h0 h1).2.2.2
  · by_cases e : m + 1 = n
    · rw [e, k2, k1 m (by omega), show m = n - 1 by omega, ← hS.2 (by omega), ha]
    · rw [k1 _ e, k1 m (by omega)]; exact hG m h0 (by omega)
  · by_cases e : n = 0
    · rw [show (0 : Int) = n by omega, k2, ← ha, hS.1 e]; rw [e]
    · rw [k1 0 (by omega)]; exact h00 (by omega)
set_option maxRecDepth 100000 in
set_option maxHeartbeats 4000000 in
theorem k_split (hd : 13 ≤ d) (htp : tpB (f 40) (f (fv 39 1) 0)) (k0 : ∀ N9 : Int, ∀ f1 : iF, (tkC (f1 46) (f1 47) (f 40) (f (fv 39 1) 0) N9) → Q none (mx [46, 47] f f1) g) : wq d 124 [iR 41] f g Q := by
  obtain ⟨d, rfl⟩ : ∃ e, d = e + 1 := ⟨d - 1, by omega⟩
  refine i_meth [(4, 3), (7, 3)] (fun n j lv st f' g' => (j = 4 ∧ ∃ (at9 : Int) (nn9 : Int) (f1 : iF), lv = [some (iR 41), some (iI at9), some (iI nn9)] ∧ st = [] ∧ f' = (mx [46, 47] f f1) ∧ g = g' ∧ (0 ≤ nn9 ∧ nn9 ≤ at9 ∧ at9 ≤ f (fv 39 1) 0) ∧ ((nn9 = 0 → skp (f 40) (f (fv 39 1) 0) at9 = skp (f 40) (f (fv 39 1) 0) 0) ∧ (0 < nn9 → skp (f 40) (f (fv 39 1) 0) at9 = nxP (f 40) (f (fv 39 1) 0) (f1 47 (nn9 - 1)))) ∧ (∀ m, 0 ≤ m → m < nn9 → f1 46 m = kdP (f 40) (f (fv 39 1) 0) (f1 47 m) ∧ 0 ≤ f1 47 m ∧ f1 47 m ≤ f (fv 39 1) 0 ∧ ¬ f1 46 m = 0) ∧ (∀ m, 0 ≤ m → m + 1 < nn9 → f1 47 (m + 1) = nxP (f 40) (f (fv 39 1) 0) (f1 47 m)) ∧ (0 < nn9 → f1 47 0 = skp (f 40) (f (fv 39 1) 0) 0) ∧ (n : Int) = 802 - at9 - nn9) ∨ (j = 7 ∧ ∃ (at9 : Int) (nn9 : Int) (f1 : iF), lv = [some (iR 41), some (iI at9), some (iI nn9)] ∧ st = [] ∧ f' = (mx [46, 47] f f1) ∧ g = g' ∧ (0 ≤ nn9 ∧ nn9 ≤ at9 ∧ at9 ≤ f (fv 39 1) 0) ∧ ((nn9 = 0 → skp (f 40) (f (fv 39 1) 0) at9 = skp (f 40) (f (fv 39 1) 0) 0) ∧ (0 < nn9 → skp (f 40) (f (fv 39 1) 0) at9 = nxP (f 40) (f (fv 39 1) 0) (f1 47 (nn9 - 1)))) ∧ (∀ m, 0 ≤ m → m < nn9 → f1 46 m = kdP (f 40) (f (fv 39 1) 0) (f1 47 m) ∧ 0 ≤ f1 47 m ∧ f1 47 m ≤ f (fv 39 1) 0 ∧ ¬ f1 46 m = 0) ∧ (∀ m, 0 ≤ m → m + 1 < nn9 → f1 47 (m + 1) = nxP (f 40) (f (fv 39 1) 0) (f1 47 m)) ∧ (0 < nn9 → f1 47 0 = skp (f 40) (f (fv 39 1) 0) 0) ∧ (nn9 ≤ 400) ∧ (n : Int) = 802 - at9 - nn9)) 900 (by omega) rfl rfl (fun n j lv st f' g' hn hI O J hO hF hB => ?_) (fun hvs hin O J hO hF => ?_)
  · rcases hI with hI | hI
    · obtain ⟨rfl, at9, nn9, f1, rfl, rfl, rfl, rfl, hn, hS, hP, hG, h00, hm⟩ := hI
      have htp1 := htp.1
      refine ⟨fun (hh_1 : 400 < nn9) => ?_, fun (hh_1 : ¬ 400 < nn9) => ?_⟩
      · exfalso; omega
      · refine hF (802 - at9 - nn9 : Int).toNat ?_ (Or.inr (⟨rfl, at9, nn9, f1, rfl, rfl, rfl, rfl, ?_, ?_, ?_, ?_, ?_, ?_, ?_⟩))
        · omega
        · omega
        · exact hS
        · exact hP
        · exact hG
        · exact h00
        · omega
        · omega
    · obtain ⟨rfl, at9, nn9, f1, rfl, rfl, rfl, rfl, hn, hS, hP, hG, h00, h401, hm⟩ := hI
      have htp1 := htp.1
      refine ⟨fun (hh_2 : at9 < f (fv 39 1) 0) => ?_, fun (hh_2 : ¬ at9 < f (fv 39 1) 0) => ?_⟩
      · refine hO (k_get_tp (by omega) (show 0 ≤ at9 ∧ at9 < 400 from by omega) ?_)
        refine hO (k_isBlank (by omega) (fun (hh_3 : ((f 40 at9) = 32 ∨ (f 40 at9) = 10)) => ?_) (fun (hh_4 : ¬ (((f 40 at9) = 32 ∨ (f 40 at9) = 10))) => ?_))
        · have hbl := hh_3
          refine ⟨fun h => absurd (show (1 : Int) = 0 from h) (by decide), fun _ => ?_⟩
          refine ⟨show inr (at9 + 1) from by constructor <;> omega, ?_⟩
          refine hB (802 - (at9 + 1) - nn9 : Int).toNat ?_ (Or.inr (⟨rfl, (at9 + 1), nn9, f1, rfl, rfl, rfl, rfl, ?_, ?_, ?_, ?_, ?_, ?_, ?_⟩))
          · omega
          · omega
          · refine ⟨fun h => ?_, fun h => ?_⟩
            · rw [← hS.1 h]; exact (skp_t (by omega) hbl).symm
            · rw [← hS.2 h]; exact (skp_t (by omega) hbl).symm
          · exact hP
          · exact hG
          · exact h00
          · omega
          · omega
        · have hsk : skp (f 40) (f (fv 39 1) 0) at9 = at9 := wlk_f (fun q => hh_4 (blk_t.mp q.2))
          refine ⟨fun _ => ?_, fun h => absurd (show (0 : Int) = 0 from by decide) h⟩
          refine ⟨show 0 ≤ (nn9 : Int) ∧ nn9 < 401 from by omega, ?_⟩
          refine ⟨show 0 ≤ (nn9 : Int) ∧ nn9 < 401 from by omega, ?_⟩
          refine ⟨fun _ => ?_, fun h => absurd hh_2 h⟩
          have hlt9 : at9 < f (fv 39 1) 0 := by omega
          have hen := ent_r (t := f 40) hlt9
          refine hO (k_ends (by omega) (show 0 ≤ at9 ∧ at9 < (f (fv 39 1) 0) from by omega) (show tpB (f 40) (f (fv 39 1) 0) from htp) ?_)
          refine hO (k_kind (by omega) (show 0 ≤ at9 ∧ at9 < (f (fv 39 1) 0) from by omega) (show (ent (f 40) (f (fv 39 1) 0) at9) = ent (f 40) (f (fv 39 1) 0) at9 from rfl) (show tpB (f 40) (f (fv 39 1) 0) from htp) ?_)
          refine ⟨show 0 ≤ (nn9 : Int) ∧ nn9 < 401 from by omega, ?_⟩
          refine ⟨show inr (nn9 + 1) from by constructor <;> omega, ?_⟩
          have hq := spl_end (kn := f1 46) (pl := f1 47) (kn' := (wv (wv (wv f1 47 nn9 at9) 46 nn9 0) 46 nn9 (kdI (f 40) at9 (ent (f 40) (f (fv 39 1) 0) at9))) 46) (pl' := (wv (wv (wv f1 47 nn9 at9) 46 nn9 0) 46 nn9 (kdI (f 40) at9 (ent (f 40) (f (fv 39 1) 0) at9))) 47) hn htp1.2 hS hP hG h00 hsk (fun m e => ((wv_k e).trans (wv_k e))) (fun m e => wv_k e) wv_s (wv_s.trans (by unfold kdP; rw [if_pos (by omega)]))
          refine hB (802 - (ent (f 40) (f (fv 39 1) 0) at9) - (nn9 + 1) : Int).toNat ?_ (Or.inl ⟨rfl, ent (f 40) (f (fv 39 1) 0) at9, (nn9 + 1), (wv (wv (wv f1 47 nn9 at9) 46 nn9 0) 46 nn9 (kdI (f 40) at9 (ent (f 40) (f (fv 39 1) 0) at9))), rfl, rfl, (mx_wv rfl (mx_wv rfl (mx_wv rfl rfl))), rfl, ?_, ?_, ?_, ?_, ?_, ?_⟩)
          · omega
          · omega
          · refine ⟨fun h => by omega, fun _ => ?_⟩
            rw [show nn9 + 1 - 1 = nn9 by omega]
            show _ = nxP _ _ (wv _ 47 nn9 at9 47 nn9)
            rw [wv_s]
            unfold nxP spP
            rw [if_pos hlt9]
          · intro m h0 h1
            have q := hq.1 m h0 h1
            refine ⟨q.1, q.2.1, q.2.2, ?_⟩
            by_cases e : m = nn9
            · rw [e]; show ¬ wv _ 46 nn9 _ 46 nn9 = 0; rw [wv_s]; intro h; have hz := kdI_r (t := f 40) hlt9; rw [h] at hz; revert hz; decide
            · exact hq.2.1 m h0 (by omega)
          · exact hq.2.2.1
          · exact fun _ => hq.2.2.2
          · omega
      · have hsk : skp (f 40) (f (fv 39 1) 0) at9 = at9 := wlk_f (fun q => by omega)
        refine ⟨show 0 ≤ (nn9 : Int) ∧ nn9 < 401 from by omega, ?_⟩
        refine ⟨show 0 ≤ (nn9 : Int) ∧ nn9 < 401 from by omega, ?_⟩
        refine ⟨fun h => absurd h hh_2, fun _ => ?_⟩
        have hq := spl_end (kn := f1 46) (pl := f1 47) (kn' := (wv (wv f1 47 nn9 at9) 46 nn9 0) 46) (pl' := (wv (wv f1 47 nn9 at9) 46 nn9 0) 47) hn htp1.2 hS hP hG h00 hsk (fun m e => wv_k e) (fun m e => wv_k e) wv_s (wv_s.trans (by unfold kdP; rw [if_neg (by omega)]))
        have hk := k0 nn9 ((wv (wv f1 47 nn9 at9) 46 nn9 0)) ⟨by omega, by omega, hq.2.2.2, fun m h0 h1 => hq.1 m h0 (by omega), fun m h0 h1 => ⟨hq.2.1 m h0 h1, hq.2.2.1 m h0 (by omega)⟩, wv_s⟩
        rw [show mx [46, 47] f (wv (wv f1 47 nn9 at9) 46 nn9 0) = (wv (wv (mx [46, 47] f f1) 47 nn9 at9) 46 nn9 0) from ((mx_wv rfl (mx_wv rfl rfl))).symm] at hk
        exact hk
  · have htp1 := htp.1
    refine hF (802 - 0 - 0 : Int).toNat ?_ (Or.inl ⟨rfl, 0, 0, f, rfl, rfl, mx_rf, rfl, ?_, ?_, ?_, ?_, ?_, ?_⟩)
    · omega
    · omega
    · refine ⟨fun _ => rfl, fun h => ?_⟩; omega
    · intro m h0 h1; omega
    · intro m h0 h1; omega
    · intro h; omega
    · omega
end C37
