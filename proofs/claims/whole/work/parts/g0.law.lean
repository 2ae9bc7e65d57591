/-! ===== the law's own loop ===== -/
theorem i_methL {d μ : Nat} {XT : x_Xt} {Q : Option iv → iF → iG → Prop} (cuts : List (Nat × Nat)) (I : Nat → Nat → iL → List iv → iF → iG → Prop) (N : Nat) (hN : N ≤ 4000)
  (hI : ∀ n j lv st f g, n ≤ N → I n j lv st f g → ∀ (O : Nat → List iv → iF → iG → (Option iv → iF → iG → Prop) → Prop) (J : Bool → Nat → iL → List iv → iF → iG → Prop), (∀ {μ vs f g R}, wq d μ vs f g R → O μ vs f g R) → (∀ {j' lv st f g} m, m ≤ n → I m j' lv st f g → J false j' lv st f g) → (∀ {j' lv f g} m, m < n → I m j' lv [] f g → J true j' lv [] f g) → i_wp (kE.2.2.1 μ) XT cuts O J Q (kE.2.2.2 μ) (700 - j) j ((kE.2.2.2 μ).drop j) lv st f g)
  {j m k' : Nat} {lv : iL} {st : List iv} {f : iF} {g : iG} {tl : x_L} (hm : m ≤ N) (h0 : I m j lv st f g) (hl : okL lv) (hs : okS st) (hf : InR f) (ht : lv.length + tl.length = kE.2.2.1 μ) (htl : x_okl 106 tl = true) (hk : 700 ≤ k' + j) : zOK Q (x_ev kE XT (pe d) (x_lp kE XT (pe d) (kE.2.2.2 μ) 700 4000) (kE.2.2.2 μ) k' ((kE.2.2.2 μ).drop j) (cL lv ++ tl) (st.map cV) (cT f g)) := by
  have main : ∀ (nn r j m : Nat) lv st f g tl k', 700 - j ≤ r → m ≤ nn → m ≤ N → I m j lv st f g → okL lv → okS st → InR f → lv.length + tl.length = kE.2.2.1 μ → x_okl 106 tl = true → 700 ≤ k' + j → zOK Q (x_ev kE XT (pe d) (x_lp kE XT (pe d) (kE.2.2.2 μ) 700 nn) (kE.2.2.2 μ) k' ((kE.2.2.2 μ).drop j) (cL lv ++ tl) (st.map cV) (cT f g)) := by
    intro nn
    induction nn with
    | zero =>
      intro r
      induction r with
      | zero =>
        intro j m lv st f g tl k' hr hm hmN hi
        have := hI m j lv st f g hmN hi (fun μ vs f g R => wq d μ vs f g R) (fun b j lv st f g => (b = false ∧ ∃ m' , m' ≤ m ∧ I m' j lv st f g) ∨ (b = true ∧ ∃ m', m' < m ∧ I m' j lv st f g)) (fun h => h) (fun m' h1 h2 => Or.inl ⟨rfl, m', h1, h2⟩) (fun m' h1 h2 => Or.inr ⟨rfl, m', h1, h2⟩)
        rw [show 700 - j = 0 by omega] at this
        exact this.elim
      | succ r ihr =>
        intro j m lv st f g tl k' hr hm hmN hi hl hs hf ht htl hk
        have := hI m j lv st f g hmN hi (fun μ vs f g R => wq d μ vs f g R) (fun b j lv st f g => (b = false ∧ ∃ m' , m' ≤ m ∧ I m' j lv st f g) ∨ (b = true ∧ ∃ m', m' < m ∧ I m' j lv st f g)) (fun h => h) (fun m' h1 h2 => Or.inl ⟨rfl, m', h1, h2⟩) (fun m' h1 h2 => Or.inr ⟨rfl, m', h1, h2⟩)
        refine i_ev_ok (p0 := j) (O := fun μ vs f g R => wq d μ vs f g R) (fun μ vs f g R h => h) (fun j' lv st f g tl k' hj hJ hl hs hf ht htl hk => ?_) (fun j' lv f g tl hJ hl hf ht htl => ?_) (700 - j) j _ lv st f g tl k' this rfl (Nat.le_refl _) hl hs hf ht htl (by omega) hk
        · rcases hJ with ⟨-, m', h1, h2⟩ | ⟨h1, -⟩
          · exact ihr j' m' lv st f g tl k' (by omega) (by omega) (by omega) h2 hl hs hf ht htl hk
          · cases h1
        · rcases hJ with ⟨h1, -⟩ | ⟨-, m', h1, h2⟩
          · cases h1
          · omega
    | succ nn ihn =>
      intro r
      induction r with
      | zero =>
        intro j m lv st f g tl k' hr hm hmN hi
        have := hI m j lv st f g hmN hi (fun μ vs f g R => wq d μ vs f g R) (fun b j lv st f g => (b = false ∧ ∃ m' , m' ≤ m ∧ I m' j lv st f g) ∨ (b = true ∧ ∃ m', m' < m ∧ I m' j lv st f g)) (fun h => h) (fun m' h1 h2 => Or.inl ⟨rfl, m', h1, h2⟩) (fun m' h1 h2 => Or.inr ⟨rfl, m', h1, h2⟩)
        rw [show 700 - j = 0 by omega] at this
        exact this.elim
      | succ r ihr =>
        intro j m lv st f g tl k' hr hm hmN hi hl hs hf ht htl hk
        have := hI m j lv st f g hmN hi (fun μ vs f g R => wq d μ vs f g R) (fun b j lv st f g => (b = false ∧ ∃ m' , m' ≤ m ∧ I m' j lv st f g) ∨ (b = true ∧ ∃ m', m' < m ∧ I m' j lv st f g)) (fun h => h) (fun m' h1 h2 => Or.inl ⟨rfl, m', h1, h2⟩) (fun m' h1 h2 => Or.inr ⟨rfl, m', h1, h2⟩)
        refine i_ev_ok (p0 := j) (O := fun μ vs f g R => wq d μ vs f g R) (fun μ vs f g R h => h) (fun j' lv st f g tl k' hj hJ hl hs hf ht htl hk => ?_) (fun j' lv f g tl hJ hl hf ht htl => ?_) (700 - j) j _ lv st f g tl k' this rfl (Nat.le_refl _) hl hs hf ht htl (by omega) hk
        · rcases hJ with ⟨-, m', h1, h2⟩ | ⟨h1, -⟩
          · exact ihr j' m' lv st f g tl k' (by omega) (by omega) (by omega) h2 hl hs hf ht htl hk
          · cases h1
        · rcases hJ with ⟨h1, -⟩ | ⟨-, m', h1, h2⟩
          · cases h1
          · show zOK Q (x_ev _ _ _ _ _ _ _ _ [] _)
            exact ihn 700 j' m' lv [] f g tl 700 (by omega) (by omega) (by omega) h2 hl (fun v hv => by simp at hv) hf ht htl (by omega)
  exact main 4000 700 j m lv st f g tl k' (by omega) (by omega) hm h0 hl hs hf ht htl hk
theorem zOK_mon2 {Q R : Option iv → iF → iG → Prop} {z : x_Z} (h : zOK Q z) (k : ∀ v f g, Q v f g → R v f g) : zOK R z := by
  obtain ⟨v, f, g, e, h1, h2, h3⟩ := h
  exact ⟨v, f, g, e, h1, h2, k v f g h3⟩
theorem wq_mon2 {d μ : Nat} {vs : List iv} {f : iF} {g : iG} {Q R : Option iv → iF → iG → Prop} (h : wq d μ vs f g Q) (k : ∀ v f g, Q v f g → R v f g) : wq d μ vs f g R := fun h1 h2 => zOK_mon2 (h h1 h2) k
set_option maxRecDepth 100000 in
set_option maxHeartbeats 8000000 in
theorem lw_loop {L : Nat} {xs : Nat → Int32} (hL : L ≤ 3072) {f : iF} {g : iG} (hv0 : Inv f g) (hf : InR f) : zOK (fun v _ _ => v = some (iI 1)) (x_ev kE (y_scr L xs) (pe 60) (x_lp kE (y_scr L xs) (pe 60) (kE.2.2.2 87) 700 4000) (kE.2.2.2 87) 690 ((kE.2.2.2 87).drop 10) (cL [some (iX 2), some (iR 0), some (iR 79), some (iI 0)] ++ []) (([] : List iv).map cV) (cT f g)) := by
  refine i_methL [(10, 4)] (fun n j lv st f g => j = 10 ∧ ∃ i : Int, lv = [some (iX 2), some (iR 0), some (iR 79), some (iI i)] ∧ st = [] ∧ Inv f g ∧ (0 ≤ i ∧ i ≤ 3100) ∧ (n : Int) = 3200 - i) 3200 (by omega) (fun n j lv st f g hn hI O J hO hF hB => ?_) (m := 3200) (by omega) ⟨rfl, 0, rfl, rfl, hv0, by omega, rfl⟩ (fun v hm => ?_) (fun v hm => by cases hm) hf rfl rfl (by omega)
  · obtain ⟨rfl, i, rfl, rfl, hv, hi, hm⟩ := hI
    refine ⟨show L ≤ 2147483647 from by omega, ?_⟩
    refine Or.inl ⟨show inr ((L : Int) - 6) from by constructor <;> omega, ?_⟩
    refine ⟨fun (hgt : ((L : Int) - 6) < i) => ?_, fun (hgt : ¬ ((L : Int) - 6) < i) => ?_⟩
    · exact ⟨Or.inr rfl, rfl⟩
    · refine ⟨show 0 ≤ i ∧ i < (L : Int) from by omega, ?_⟩
      refine ⟨fun _ => ?_, fun _ => ?_⟩
      · refine Or.inl ⟨show inr (i + 1) from by constructor <;> omega, ?_⟩
        refine ⟨show 0 ≤ (i + 1) ∧ (i + 1) < (L : Int) from by omega, ?_⟩
        refine hO (wq_mon2 (st_state hv) (fun v f1 g1 h1 => ?_))
        obtain ⟨x, rfl, hr⟩ := h1
        refine Or.inl ⟨show inr (i + 1) from by constructor <;> omega, ?_⟩
        refine ⟨show 0 ≤ (i + 1) ∧ (i + 1) < (L : Int) from by omega, ?_⟩
        refine hO (wq_mon2 hr (fun v f2 g2 h2 => ?_))
        obtain ⟨rfl, hv2⟩ := h2
        refine ⟨fun _ => ?_, fun h => absurd rfl h⟩
        refine ⟨show inr (i + 6) from by constructor <;> omega, ?_⟩
        refine hB (3200 - (i + 6) : Int).toNat ?_ ⟨rfl, i + 6, rfl, rfl, hv2, ?_, ?_⟩
        · omega
        · omega
        · omega
      · refine ⟨fun _ => ?_, fun _ => ?_⟩
        · refine Or.inl ⟨show inr (i + 1) from by constructor <;> omega, ?_⟩
          refine ⟨show 0 ≤ (i + 1) ∧ (i + 1) < (L : Int) from by omega, ?_⟩
          refine Or.inl ⟨show inr (i + 2) from by constructor <;> omega, ?_⟩
          refine ⟨show 0 ≤ (i + 2) ∧ (i + 2) < (L : Int) from by omega, ?_⟩
          refine hO (wq_mon2 (st_apprentice hv) (fun v f1 g1 h1 => ?_))
          obtain ⟨x, rfl, hr⟩ := h1
          refine Or.inl ⟨show inr (i + 1) from by constructor <;> omega, ?_⟩
          refine ⟨show 0 ≤ (i + 1) ∧ (i + 1) < (L : Int) from by omega, ?_⟩
          refine Or.inl ⟨show inr (i + 2) from by constructor <;> omega, ?_⟩
          refine ⟨show 0 ≤ (i + 2) ∧ (i + 2) < (L : Int) from by omega, ?_⟩
          refine hO (wq_mon2 hr (fun v f2 g2 h2 => ?_))
          obtain ⟨rfl, hv2⟩ := h2
          refine ⟨fun _ => ?_, fun h => absurd rfl h⟩
          refine ⟨show inr (i + 6) from by constructor <;> omega, ?_⟩
          refine hB (3200 - (i + 6) : Int).toNat ?_ ⟨rfl, i + 6, rfl, rfl, hv2, ?_, ?_⟩
          · omega
          · omega
          · omega
        · refine ⟨fun _ => ?_, fun _ => ?_⟩
          · refine Or.inl ⟨show inr (i + 1) from by constructor <;> omega, ?_⟩
            refine ⟨show 0 ≤ (i + 1) ∧ (i + 1) < (L : Int) from by omega, ?_⟩
            refine Or.inl ⟨show inr (i + 2) from by constructor <;> omega, ?_⟩
            refine ⟨show 0 ≤ (i + 2) ∧ (i + 2) < (L : Int) from by omega, ?_⟩
            refine hO (wq_mon2 (st_own hv) (fun v f1 g1 h1 => ?_))
            obtain ⟨x, rfl, hr⟩ := h1
            refine Or.inl ⟨show inr (i + 1) from by constructor <;> omega, ?_⟩
            refine ⟨show 0 ≤ (i + 1) ∧ (i + 1) < (L : Int) from by omega, ?_⟩
            refine Or.inl ⟨show inr (i + 2) from by constructor <;> omega, ?_⟩
            refine ⟨show 0 ≤ (i + 2) ∧ (i + 2) < (L : Int) from by omega, ?_⟩
            refine hO (wq_mon2 hr (fun v f2 g2 h2 => ?_))
            obtain ⟨rfl, hv2⟩ := h2
            refine ⟨fun _ => ?_, fun h => absurd rfl h⟩
            refine ⟨show inr (i + 6) from by constructor <;> omega, ?_⟩
            refine hB (3200 - (i + 6) : Int).toNat ?_ ⟨rfl, i + 6, rfl, rfl, hv2, ?_, ?_⟩
            · omega
            · omega
            · omega
          · refine ⟨fun _ => ?_, fun _ => ?_⟩
            · refine Or.inl ⟨show inr (i + 1) from by constructor <;> omega, ?_⟩
              refine ⟨show 0 ≤ (i + 1) ∧ (i + 1) < (L : Int) from by omega, ?_⟩
              refine Or.inl ⟨show inr (i + 2) from by constructor <;> omega, ?_⟩
              refine ⟨show 0 ≤ (i + 2) ∧ (i + 2) < (L : Int) from by omega, ?_⟩
              refine Or.inl ⟨show inr (i + 3) from by constructor <;> omega, ?_⟩
              refine ⟨show 0 ≤ (i + 3) ∧ (i + 3) < (L : Int) from by omega, ?_⟩
              refine hO (wq_mon2 (st_set hv) (fun v f1 g1 h1 => ?_))
              obtain ⟨x, rfl, hr⟩ := h1
              refine Or.inl ⟨show inr (i + 1) from by constructor <;> omega, ?_⟩
              refine ⟨show 0 ≤ (i + 1) ∧ (i + 1) < (L : Int) from by omega, ?_⟩
              refine Or.inl ⟨show inr (i + 2) from by constructor <;> omega, ?_⟩
              refine ⟨show 0 ≤ (i + 2) ∧ (i + 2) < (L : Int) from by omega, ?_⟩
              refine Or.inl ⟨show inr (i + 3) from by constructor <;> omega, ?_⟩
              refine ⟨show 0 ≤ (i + 3) ∧ (i + 3) < (L : Int) from by omega, ?_⟩
              refine hO (wq_mon2 hr (fun v f2 g2 h2 => ?_))
              obtain ⟨rfl, hv2⟩ := h2
              refine ⟨fun _ => ?_, fun h => absurd rfl h⟩
              refine ⟨show inr (i + 6) from by constructor <;> omega, ?_⟩
              refine hB (3200 - (i + 6) : Int).toNat ?_ ⟨rfl, i + 6, rfl, rfl, hv2, ?_, ?_⟩
              · omega
              · omega
              · omega
            · refine ⟨fun _ => ?_, fun _ => ?_⟩
              · refine Or.inl ⟨show inr (i + 1) from by constructor <;> omega, ?_⟩
                refine ⟨show 0 ≤ (i + 1) ∧ (i + 1) < (L : Int) from by omega, ?_⟩
                refine Or.inl ⟨show inr (i + 2) from by constructor <;> omega, ?_⟩
                refine ⟨show 0 ≤ (i + 2) ∧ (i + 2) < (L : Int) from by omega, ?_⟩
                refine Or.inl ⟨show inr (i + 3) from by constructor <;> omega, ?_⟩
                refine ⟨show 0 ≤ (i + 3) ∧ (i + 3) < (L : Int) from by omega, ?_⟩
                refine Or.inl ⟨show inr (i + 4) from by constructor <;> omega, ?_⟩
                refine ⟨show 0 ≤ (i + 4) ∧ (i + 4) < (L : Int) from by omega, ?_⟩
                refine Or.inl ⟨show inr (i + 5) from by constructor <;> omega, ?_⟩
                refine ⟨show 0 ≤ (i + 5) ∧ (i + 5) < (L : Int) from by omega, ?_⟩
                refine hO (wq_mon2 (st_feed hv) (fun v f1 g1 h1 => ?_))
                obtain ⟨x, rfl, hr⟩ := h1
                refine Or.inl ⟨show inr (i + 1) from by constructor <;> omega, ?_⟩
                refine ⟨show 0 ≤ (i + 1) ∧ (i + 1) < (L : Int) from by omega, ?_⟩
                refine Or.inl ⟨show inr (i + 2) from by constructor <;> omega, ?_⟩
                refine ⟨show 0 ≤ (i + 2) ∧ (i + 2) < (L : Int) from by omega, ?_⟩
                refine Or.inl ⟨show inr (i + 3) from by constructor <;> omega, ?_⟩
                refine ⟨show 0 ≤ (i + 3) ∧ (i + 3) < (L : Int) from by omega, ?_⟩
                refine Or.inl ⟨show inr (i + 4) from by constructor <;> omega, ?_⟩
                refine ⟨show 0 ≤ (i + 4) ∧ (i + 4) < (L : Int) from by omega, ?_⟩
                refine Or.inl ⟨show inr (i + 5) from by constructor <;> omega, ?_⟩
                refine ⟨show 0 ≤ (i + 5) ∧ (i + 5) < (L : Int) from by omega, ?_⟩
                refine hO (wq_mon2 hr (fun v f2 g2 h2 => ?_))
                obtain ⟨rfl, hv2⟩ := h2
                refine ⟨fun _ => ?_, fun h => absurd rfl h⟩
                refine ⟨show inr (i + 6) from by constructor <;> omega, ?_⟩
                refine hB (3200 - (i + 6) : Int).toNat ?_ ⟨rfl, i + 6, rfl, rfl, hv2, ?_, ?_⟩
                · omega
                · omega
                · omega
              · refine ⟨fun _ => ?_, fun _ => ?_⟩
                · refine Or.inl ⟨show inr (i + 1) from by constructor <;> omega, ?_⟩
                  refine ⟨show 0 ≤ (i + 1) ∧ (i + 1) < (L : Int) from by omega, ?_⟩
                  refine hO (wq_mon2 (st_end hv) (fun v f1 g1 h1 => ?_))
                  obtain ⟨x, rfl, hr⟩ := h1
                  refine Or.inl ⟨show inr (i + 1) from by constructor <;> omega, ?_⟩
                  refine ⟨show 0 ≤ (i + 1) ∧ (i + 1) < (L : Int) from by omega, ?_⟩
                  refine hO (wq_mon2 hr (fun v f2 g2 h2 => ?_))
                  obtain ⟨rfl, hv2⟩ := h2
                  refine ⟨fun _ => ?_, fun h => absurd rfl h⟩
                  refine ⟨show inr (i + 6) from by constructor <;> omega, ?_⟩
                  refine hB (3200 - (i + 6) : Int).toNat ?_ ⟨rfl, i + 6, rfl, rfl, hv2, ?_, ?_⟩
                  · omega
                  · omega
                  · omega
                · refine ⟨fun _ => ?_, fun _ => ?_⟩
                  · refine hO (wq_mon2 (st_text hv) (fun v f1 g1 h1 => ?_))
                    obtain ⟨x, rfl, hr⟩ := h1
                    refine hO (wq_mon2 hr (fun v f2 g2 h2 => ?_))
                    obtain ⟨rfl, hv2⟩ := h2
                    refine ⟨fun _ => ?_, fun h => absurd rfl h⟩
                    refine ⟨show inr (i + 6) from by constructor <;> omega, ?_⟩
                    refine hB (3200 - (i + 6) : Int).toNat ?_ ⟨rfl, i + 6, rfl, rfl, hv2, ?_, ?_⟩
                    · omega
                    · omega
                    · omega
                  · refine ⟨fun _ => ?_, fun _ => ?_⟩
                    · refine Or.inl ⟨show inr (i + 1) from by constructor <;> omega, ?_⟩
                      refine ⟨show 0 ≤ (i + 1) ∧ (i + 1) < (L : Int) from by omega, ?_⟩
                      refine hO (wq_mon2 (st_fault hv) (fun v f1 g1 h1 => ?_))
                      obtain ⟨x, rfl, hr⟩ := h1
                      refine Or.inl ⟨show inr (i + 1) from by constructor <;> omega, ?_⟩
                      refine ⟨show 0 ≤ (i + 1) ∧ (i + 1) < (L : Int) from by omega, ?_⟩
                      refine hO (wq_mon2 hr (fun v f2 g2 h2 => ?_))
                      obtain ⟨rfl, hv2⟩ := h2
                      refine ⟨fun _ => ?_, fun h => absurd rfl h⟩
                      refine ⟨show inr (i + 6) from by constructor <;> omega, ?_⟩
                      refine hB (3200 - (i + 6) : Int).toNat ?_ ⟨rfl, i + 6, rfl, rfl, hv2, ?_, ?_⟩
                      · omega
                      · omega
                      · omega
                    · refine ⟨fun _ => ?_, fun _ => ?_⟩
                      · refine hO (wq_mon2 (st_page hv) (fun v f1 g1 h1 => ?_))
                        obtain ⟨x, rfl, hr⟩ := h1
                        refine hO (wq_mon2 hr (fun v f2 g2 h2 => ?_))
                        obtain ⟨rfl, hv2⟩ := h2
                        refine ⟨fun _ => ?_, fun h => absurd rfl h⟩
                        refine ⟨show inr (i + 6) from by constructor <;> omega, ?_⟩
                        refine hB (3200 - (i + 6) : Int).toNat ?_ ⟨rfl, i + 6, rfl, rfl, hv2, ?_, ?_⟩
                        · omega
                        · omega
                        · omega
                      · refine ⟨fun _ => ?_, fun _ => ?_⟩
                        · refine hO (wq_mon2 (st_word hv) (fun v f1 g1 h1 => ?_))
                          obtain ⟨x, rfl, hr⟩ := h1
                          refine hO (wq_mon2 hr (fun v f2 g2 h2 => ?_))
                          obtain ⟨rfl, hv2⟩ := h2
                          refine ⟨fun _ => ?_, fun h => absurd rfl h⟩
                          refine ⟨show inr (i + 6) from by constructor <;> omega, ?_⟩
                          refine hB (3200 - (i + 6) : Int).toNat ?_ ⟨rfl, i + 6, rfl, rfl, hv2, ?_, ?_⟩
                          · omega
                          · omega
                          · omega
                        · refine ⟨fun _ => ?_, fun _ => ?_⟩
                          · refine hO (wq_mon2 (st_clear hv) (fun v f1 g1 h1 => ?_))
                            obtain ⟨x, rfl, hr⟩ := h1
                            refine hO (wq_mon2 hr (fun v f2 g2 h2 => ?_))
                            obtain ⟨rfl, hv2⟩ := h2
                            refine ⟨fun _ => ?_, fun h => absurd rfl h⟩
                            refine ⟨show inr (i + 6) from by constructor <;> omega, ?_⟩
                            refine hB (3200 - (i + 6) : Int).toNat ?_ ⟨rfl, i + 6, rfl, rfl, hv2, ?_, ?_⟩
                            · omega
                            · omega
                            · omega
                          · refine ⟨fun _ => ?_, fun _ => ?_⟩
                            · refine hO (wq_mon2 (st_print hv) (fun v f1 g1 h1 => ?_))
                              obtain ⟨x, rfl, hr⟩ := h1
                              refine hO (wq_mon2 hr (fun v f2 g2 h2 => ?_))
                              obtain ⟨rfl, hv2⟩ := h2
                              refine ⟨fun _ => ?_, fun h => absurd rfl h⟩
                              refine ⟨show inr (i + 6) from by constructor <;> omega, ?_⟩
                              refine hB (3200 - (i + 6) : Int).toNat ?_ ⟨rfl, i + 6, rfl, rfl, hv2, ?_, ?_⟩
                              · omega
                              · omega
                              · omega
                            · refine ⟨fun _ => ?_, fun _ => ?_⟩
                              · refine hO (wq_mon2 (st_day hv) (fun v f1 g1 h1 => ?_))
                                obtain ⟨x, rfl, hr⟩ := h1
                                refine hO (wq_mon2 hr (fun v f2 g2 h2 => ?_))
                                obtain ⟨rfl, hv2⟩ := h2
                                refine ⟨fun _ => ?_, fun h => absurd rfl h⟩
                                refine ⟨show inr (i + 6) from by constructor <;> omega, ?_⟩
                                refine hB (3200 - (i + 6) : Int).toNat ?_ ⟨rfl, i + 6, rfl, rfl, hv2, ?_, ?_⟩
                                · omega
                                · omega
                                · omega
                              · refine ⟨fun _ => ?_, fun _ => ?_⟩
                                · refine Or.inl ⟨show inr (i + 1) from by constructor <;> omega, ?_⟩
                                  refine ⟨show 0 ≤ (i + 1) ∧ (i + 1) < (L : Int) from by omega, ?_⟩
                                  refine Or.inl ⟨show inr (i + 2) from by constructor <;> omega, ?_⟩
                                  refine ⟨show 0 ≤ (i + 2) ∧ (i + 2) < (L : Int) from by omega, ?_⟩
                                  refine hO (wq_mon2 (st_of hv) (fun v f1 g1 h1 => ?_))
                                  obtain ⟨x, rfl, hr⟩ := h1
                                  refine Or.inl ⟨show inr (i + 1) from by constructor <;> omega, ?_⟩
                                  refine ⟨show 0 ≤ (i + 1) ∧ (i + 1) < (L : Int) from by omega, ?_⟩
                                  refine Or.inl ⟨show inr (i + 2) from by constructor <;> omega, ?_⟩
                                  refine ⟨show 0 ≤ (i + 2) ∧ (i + 2) < (L : Int) from by omega, ?_⟩
                                  refine hO (wq_mon2 hr (fun v f2 g2 h2 => ?_))
                                  obtain ⟨rfl, hv2⟩ := h2
                                  refine ⟨fun _ => ?_, fun h => absurd rfl h⟩
                                  refine ⟨show inr (i + 6) from by constructor <;> omega, ?_⟩
                                  refine hB (3200 - (i + 6) : Int).toNat ?_ ⟨rfl, i + 6, rfl, rfl, hv2, ?_, ?_⟩
                                  · omega
                                  · omega
                                  · omega
                                · refine ⟨fun _ => ?_, fun _ => ?_⟩
                                  · refine Or.inl ⟨show inr (i + 1) from by constructor <;> omega, ?_⟩
                                    refine ⟨show 0 ≤ (i + 1) ∧ (i + 1) < (L : Int) from by omega, ?_⟩
                                    refine Or.inl ⟨show inr (i + 2) from by constructor <;> omega, ?_⟩
                                    refine ⟨show 0 ≤ (i + 2) ∧ (i + 2) < (L : Int) from by omega, ?_⟩
                                    refine hO (wq_mon2 (st_sign hv) (fun v f1 g1 h1 => ?_))
                                    obtain ⟨x, rfl, hr⟩ := h1
                                    refine Or.inl ⟨show inr (i + 1) from by constructor <;> omega, ?_⟩
                                    refine ⟨show 0 ≤ (i + 1) ∧ (i + 1) < (L : Int) from by omega, ?_⟩
                                    refine Or.inl ⟨show inr (i + 2) from by constructor <;> omega, ?_⟩
                                    refine ⟨show 0 ≤ (i + 2) ∧ (i + 2) < (L : Int) from by omega, ?_⟩
                                    refine hO (wq_mon2 hr (fun v f2 g2 h2 => ?_))
                                    obtain ⟨rfl, hv2⟩ := h2
                                    refine ⟨fun _ => ?_, fun h => absurd rfl h⟩
                                    refine ⟨show inr (i + 6) from by constructor <;> omega, ?_⟩
                                    refine hB (3200 - (i + 6) : Int).toNat ?_ ⟨rfl, i + 6, rfl, rfl, hv2, ?_, ?_⟩
                                    · omega
                                    · omega
                                    · omega
                                  · refine ⟨fun _ => ?_, fun _ => ?_⟩
                                    · refine Or.inl ⟨show inr (i + 1) from by constructor <;> omega, ?_⟩
                                      refine ⟨show 0 ≤ (i + 1) ∧ (i + 1) < (L : Int) from by omega, ?_⟩
                                      refine hO (wq_mon2 (st_at hv) (fun v f1 g1 h1 => ?_))
                                      obtain ⟨x, rfl, hr⟩ := h1
                                      refine Or.inl ⟨show inr (i + 1) from by constructor <;> omega, ?_⟩
                                      refine ⟨show 0 ≤ (i + 1) ∧ (i + 1) < (L : Int) from by omega, ?_⟩
                                      refine hO (wq_mon2 hr (fun v f2 g2 h2 => ?_))
                                      obtain ⟨rfl, hv2⟩ := h2
                                      refine ⟨fun _ => ?_, fun h => absurd rfl h⟩
                                      refine ⟨show inr (i + 6) from by constructor <;> omega, ?_⟩
                                      refine hB (3200 - (i + 6) : Int).toNat ?_ ⟨rfl, i + 6, rfl, rfl, hv2, ?_, ?_⟩
                                      · omega
                                      · omega
                                      · omega
                                    · refine ⟨fun _ => ?_, fun _ => ?_⟩
                                      · refine Or.inl ⟨show inr (i + 1) from by constructor <;> omega, ?_⟩
                                        refine ⟨show 0 ≤ (i + 1) ∧ (i + 1) < (L : Int) from by omega, ?_⟩
                                        refine hO (wq_mon2 (st_pays hv) (fun v f1 g1 h1 => ?_))
                                        obtain ⟨x, rfl, hr⟩ := h1
                                        refine Or.inl ⟨show inr (i + 1) from by constructor <;> omega, ?_⟩
                                        refine ⟨show 0 ≤ (i + 1) ∧ (i + 1) < (L : Int) from by omega, ?_⟩
                                        refine hO (wq_mon2 hr (fun v f2 g2 h2 => ?_))
                                        obtain ⟨rfl, hv2⟩ := h2
                                        refine ⟨fun _ => ?_, fun h => absurd rfl h⟩
                                        refine ⟨show inr (i + 6) from by constructor <;> omega, ?_⟩
                                        refine hB (3200 - (i + 6) : Int).toNat ?_ ⟨rfl, i + 6, rfl, rfl, hv2, ?_, ?_⟩
                                        · omega
                                        · omega
                                        · omega
                                      · refine ⟨fun _ => ?_, fun _ => ?_⟩
                                        · refine Or.inl ⟨show inr (i + 1) from by constructor <;> omega, ?_⟩
                                          refine ⟨show 0 ≤ (i + 1) ∧ (i + 1) < (L : Int) from by omega, ?_⟩
                                          refine Or.inl ⟨show inr (i + 2) from by constructor <;> omega, ?_⟩
                                          refine ⟨show 0 ≤ (i + 2) ∧ (i + 2) < (L : Int) from by omega, ?_⟩
                                          refine hO (wq_mon2 (st_roll hv) (fun v f1 g1 h1 => ?_))
                                          obtain ⟨x, rfl, hr⟩ := h1
                                          refine Or.inl ⟨show inr (i + 1) from by constructor <;> omega, ?_⟩
                                          refine ⟨show 0 ≤ (i + 1) ∧ (i + 1) < (L : Int) from by omega, ?_⟩
                                          refine Or.inl ⟨show inr (i + 2) from by constructor <;> omega, ?_⟩
                                          refine ⟨show 0 ≤ (i + 2) ∧ (i + 2) < (L : Int) from by omega, ?_⟩
                                          refine hO (wq_mon2 hr (fun v f2 g2 h2 => ?_))
                                          obtain ⟨rfl, hv2⟩ := h2
                                          refine ⟨fun _ => ?_, fun h => absurd rfl h⟩
                                          refine ⟨show inr (i + 6) from by constructor <;> omega, ?_⟩
                                          refine hB (3200 - (i + 6) : Int).toNat ?_ ⟨rfl, i + 6, rfl, rfl, hv2, ?_, ?_⟩
                                          · omega
                                          · omega
                                          · omega
                                        · refine ⟨fun _ => ?_, fun _ => ?_⟩
                                          · refine Or.inl ⟨show inr (i + 1) from by constructor <;> omega, ?_⟩
                                            refine ⟨show 0 ≤ (i + 1) ∧ (i + 1) < (L : Int) from by omega, ?_⟩
                                            refine hO (wq_mon2 (st_fewest hv) (fun v f1 g1 h1 => ?_))
                                            obtain ⟨x, rfl, hr⟩ := h1
                                            refine Or.inl ⟨show inr (i + 1) from by constructor <;> omega, ?_⟩
                                            refine ⟨show 0 ≤ (i + 1) ∧ (i + 1) < (L : Int) from by omega, ?_⟩
                                            refine hO (wq_mon2 hr (fun v f2 g2 h2 => ?_))
                                            obtain ⟨rfl, hv2⟩ := h2
                                            refine ⟨fun _ => ?_, fun h => absurd rfl h⟩
                                            refine ⟨show inr (i + 6) from by constructor <;> omega, ?_⟩
                                            refine hB (3200 - (i + 6) : Int).toNat ?_ ⟨rfl, i + 6, rfl, rfl, hv2, ?_, ?_⟩
                                            · omega
                                            · omega
                                            · omega
                                          · refine ⟨fun _ => ?_, fun _ => ?_⟩
                                            · refine Or.inl ⟨show inr (i + 1) from by constructor <;> omega, ?_⟩
                                              refine ⟨show 0 ≤ (i + 1) ∧ (i + 1) < (L : Int) from by omega, ?_⟩
                                              refine Or.inl ⟨show inr (i + 2) from by constructor <;> omega, ?_⟩
                                              refine ⟨show 0 ≤ (i + 2) ∧ (i + 2) < (L : Int) from by omega, ?_⟩
                                              refine hO (wq_mon2 (st_buy hv) (fun v f1 g1 h1 => ?_))
                                              obtain ⟨x, rfl, hr⟩ := h1
                                              refine Or.inl ⟨show inr (i + 1) from by constructor <;> omega, ?_⟩
                                              refine ⟨show 0 ≤ (i + 1) ∧ (i + 1) < (L : Int) from by omega, ?_⟩
                                              refine Or.inl ⟨show inr (i + 2) from by constructor <;> omega, ?_⟩
                                              refine ⟨show 0 ≤ (i + 2) ∧ (i + 2) < (L : Int) from by omega, ?_⟩
                                              refine hO (wq_mon2 hr (fun v f2 g2 h2 => ?_))
                                              obtain ⟨rfl, hv2⟩ := h2
                                              refine ⟨fun _ => ?_, fun h => absurd rfl h⟩
                                              refine ⟨show inr (i + 6) from by constructor <;> omega, ?_⟩
                                              refine hB (3200 - (i + 6) : Int).toNat ?_ ⟨rfl, i + 6, rfl, rfl, hv2, ?_, ?_⟩
                                              · omega
                                              · omega
                                              · omega
                                            · refine ⟨fun _ => ?_, fun _ => ?_⟩
                                              · refine hO (wq_mon2 (st_can hv) (fun v f1 g1 h1 => ?_))
                                                obtain ⟨x, rfl, hr⟩ := h1
                                                refine hO (wq_mon2 hr (fun v f2 g2 h2 => ?_))
                                                obtain ⟨rfl, hv2⟩ := h2
                                                refine ⟨fun _ => ?_, fun h => absurd rfl h⟩
                                                refine ⟨show inr (i + 6) from by constructor <;> omega, ?_⟩
                                                refine hB (3200 - (i + 6) : Int).toNat ?_ ⟨rfl, i + 6, rfl, rfl, hv2, ?_, ?_⟩
                                                · omega
                                                · omega
                                                · omega
                                              · refine ⟨fun _ => ?_, fun _ => ?_⟩
                                                · refine Or.inl ⟨show inr (i + 1) from by constructor <;> omega, ?_⟩
                                                  refine ⟨show 0 ≤ (i + 1) ∧ (i + 1) < (L : Int) from by omega, ?_⟩
                                                  refine Or.inl ⟨show inr (i + 2) from by constructor <;> omega, ?_⟩
                                                  refine ⟨show 0 ≤ (i + 2) ∧ (i + 2) < (L : Int) from by omega, ?_⟩
                                                  refine hO (wq_mon2 (st_hurts hv) (fun v f1 g1 h1 => ?_))
                                                  obtain ⟨x, rfl, hr⟩ := h1
                                                  refine Or.inl ⟨show inr (i + 1) from by constructor <;> omega, ?_⟩
                                                  refine ⟨show 0 ≤ (i + 1) ∧ (i + 1) < (L : Int) from by omega, ?_⟩
                                                  refine Or.inl ⟨show inr (i + 2) from by constructor <;> omega, ?_⟩
                                                  refine ⟨show 0 ≤ (i + 2) ∧ (i + 2) < (L : Int) from by omega, ?_⟩
                                                  refine hO (wq_mon2 hr (fun v f2 g2 h2 => ?_))
                                                  obtain ⟨rfl, hv2⟩ := h2
                                                  refine ⟨fun _ => ?_, fun h => absurd rfl h⟩
                                                  refine ⟨show inr (i + 6) from by constructor <;> omega, ?_⟩
                                                  refine hB (3200 - (i + 6) : Int).toNat ?_ ⟨rfl, i + 6, rfl, rfl, hv2, ?_, ?_⟩
                                                  · omega
                                                  · omega
                                                  · omega
                                                · refine ⟨fun _ => ?_, fun _ => ?_⟩
                                                  · refine Or.inl ⟨show inr (i + 1) from by constructor <;> omega, ?_⟩
                                                    refine ⟨show 0 ≤ (i + 1) ∧ (i + 1) < (L : Int) from by omega, ?_⟩
                                                    refine hO (wq_mon2 (st_swap hv) (fun v f1 g1 h1 => ?_))
                                                    obtain ⟨x, rfl, hr⟩ := h1
                                                    refine Or.inl ⟨show inr (i + 1) from by constructor <;> omega, ?_⟩
                                                    refine ⟨show 0 ≤ (i + 1) ∧ (i + 1) < (L : Int) from by omega, ?_⟩
                                                    refine hO (wq_mon2 hr (fun v f2 g2 h2 => ?_))
                                                    obtain ⟨rfl, hv2⟩ := h2
                                                    refine ⟨fun _ => ?_, fun h => absurd rfl h⟩
                                                    refine ⟨show inr (i + 6) from by constructor <;> omega, ?_⟩
                                                    refine hB (3200 - (i + 6) : Int).toNat ?_ ⟨rfl, i + 6, rfl, rfl, hv2, ?_, ?_⟩
                                                    · omega
                                                    · omega
                                                    · omega
                                                  · refine ⟨fun _ => ?_, fun _ => ?_⟩
                                                    · refine hO (wq_mon2 (st_liars hv) (fun v f1 g1 h1 => ?_))
                                                      obtain ⟨x, rfl, hr⟩ := h1
                                                      refine hO (wq_mon2 hr (fun v f2 g2 h2 => ?_))
                                                      obtain ⟨rfl, hv2⟩ := h2
                                                      refine ⟨fun _ => ?_, fun h => absurd rfl h⟩
                                                      refine ⟨show inr (i + 6) from by constructor <;> omega, ?_⟩
                                                      refine hB (3200 - (i + 6) : Int).toNat ?_ ⟨rfl, i + 6, rfl, rfl, hv2, ?_, ?_⟩
                                                      · omega
                                                      · omega
                                                      · omega
                                                    · refine ⟨fun _ => ?_, fun _ => ?_⟩
                                                      · refine hO (wq_mon2 (st_undo hv) (fun v f1 g1 h1 => ?_))
                                                        obtain ⟨x, rfl, hr⟩ := h1
                                                        refine hO (wq_mon2 hr (fun v f2 g2 h2 => ?_))
                                                        obtain ⟨rfl, hv2⟩ := h2
                                                        refine ⟨fun _ => ?_, fun h => absurd rfl h⟩
                                                        refine ⟨show inr (i + 6) from by constructor <;> omega, ?_⟩
                                                        refine hB (3200 - (i + 6) : Int).toNat ?_ ⟨rfl, i + 6, rfl, rfl, hv2, ?_, ?_⟩
                                                        · omega
                                                        · omega
                                                        · omega
                                                      · refine ⟨fun _ => ?_, fun _ => ?_⟩
                                                        · refine Or.inl ⟨show inr (i + 1) from by constructor <;> omega, ?_⟩
                                                          refine ⟨show 0 ≤ (i + 1) ∧ (i + 1) < (L : Int) from by omega, ?_⟩
                                                          refine ⟨fun (hz : (xs (Int.toNat (i + 1))).toInt = 0) => ?_, fun (hz : ¬ (xs (Int.toNat (i + 1))).toInt = 0) => ?_⟩
                                                          · refine hO (wq_mon2 (st_image (by decide) hv) (fun v f1 g1 h1 => ?_))
                                                            obtain ⟨x, rfl, hr⟩ := h1
                                                            refine Or.inl ⟨show inr (i + 1) from by constructor <;> omega, ?_⟩
                                                            refine ⟨show 0 ≤ (i + 1) ∧ (i + 1) < (L : Int) from by omega, ?_⟩
                                                            refine ⟨fun _ => ?_, fun h => absurd hz h⟩
                                                            refine hO (wq_mon2 hr (fun v f2 g2 h2 => ?_))
                                                            obtain ⟨rfl, hv2⟩ := h2
                                                            refine ⟨fun _ => ?_, fun h => absurd rfl h⟩
                                                            refine ⟨show inr (i + 6) from by constructor <;> omega, ?_⟩
                                                            refine hB (3200 - (i + 6) : Int).toNat ?_ ⟨rfl, i + 6, rfl, rfl, hv2, ?_, ?_⟩
                                                            · omega
                                                            · omega
                                                            · omega
                                                          · refine hO (wq_mon2 (st_image (by decide) hv) (fun v f1 g1 h1 => ?_))
                                                            obtain ⟨x, rfl, hr⟩ := h1
                                                            refine Or.inl ⟨show inr (i + 1) from by constructor <;> omega, ?_⟩
                                                            refine ⟨show 0 ≤ (i + 1) ∧ (i + 1) < (L : Int) from by omega, ?_⟩
                                                            refine ⟨fun h => absurd h hz, fun _ => ?_⟩
                                                            refine hO (wq_mon2 hr (fun v f2 g2 h2 => ?_))
                                                            obtain ⟨rfl, hv2⟩ := h2
                                                            refine ⟨fun _ => ?_, fun h => absurd rfl h⟩
                                                            refine ⟨show inr (i + 6) from by constructor <;> omega, ?_⟩
                                                            refine hB (3200 - (i + 6) : Int).toNat ?_ ⟨rfl, i + 6, rfl, rfl, hv2, ?_, ?_⟩
                                                            · omega
                                                            · omega
                                                            · omega
                                                        · refine ⟨fun _ => ?_, fun _ => ?_⟩
                                                          · refine Or.inl ⟨show inr (i + 1) from by constructor <;> omega, ?_⟩
                                                            refine ⟨show 0 ≤ (i + 1) ∧ (i + 1) < (L : Int) from by omega, ?_⟩
                                                            refine hO (wq_mon2 (st_look hv) (fun v f1 g1 h1 => ?_))
                                                            obtain ⟨x, rfl, hr⟩ := h1
                                                            refine Or.inl ⟨show inr (i + 1) from by constructor <;> omega, ?_⟩
                                                            refine ⟨show 0 ≤ (i + 1) ∧ (i + 1) < (L : Int) from by omega, ?_⟩
                                                            refine hO (wq_mon2 hr (fun v f2 g2 h2 => ?_))
                                                            obtain ⟨rfl, hv2⟩ := h2
                                                            refine ⟨fun _ => ?_, fun h => absurd rfl h⟩
                                                            refine ⟨show inr (i + 6) from by constructor <;> omega, ?_⟩
                                                            refine hB (3200 - (i + 6) : Int).toNat ?_ ⟨rfl, i + 6, rfl, rfl, hv2, ?_, ?_⟩
                                                            · omega
                                                            · omega
                                                            · omega
                                                          · refine ⟨show inr (i + 6) from by constructor <;> omega, ?_⟩
                                                            refine hB (3200 - (i + 6) : Int).toNat ?_ ⟨rfl, i + 6, rfl, rfl, hv, ?_, ?_⟩
                                                            · omega
                                                            · omega
                                                            · omega
  · simp only [List.mem_cons, List.mem_nil_iff, or_false, Option.some.injEq] at hm
    rcases hm with e | e | e | e <;> subst e
    · trivial
    · exact (by decide : (0 : Nat) < 106)
    · exact (by decide : (79 : Nat) < 106)
    · exact (by decide : inr 0)
