/-! ===== the law's code: types and values ===== -/
theorem tyl_pre {l l' s r : List Int} (h : tyl (l ++ l') s = some r) : ∃ ts, tyl l s = some ts ∧ tyl l' ts = some r := by
  rw [tyl_app] at h
  cases e : tyl l s with
  | none => rw [e] at h; cases h
  | some ts => rw [e] at h; exact ⟨ts, rfl, h⟩
theorem tyl_c {c : Int} {l s r : List Int} (h : tyl (c :: l) s = some r) : ∃ ts, tst c s = some ts ∧ tyl l ts = some r := by
  rw [tyl_cons] at h
  cases e : tst c s with
  | none => rw [e] at h; cases h
  | some ts => rw [e] at h; exact ⟨ts, rfl, h⟩
theorem tst_num {c : Int} {s r : List Int} (hc : 0 ≤ c) (h : tst c s = some r) : c ≤ 9999 ∧ s.length < 64 ∧ r = (if c = 0 then 1 else 0) :: s := by
  unfold tst at h
  rw [if_pos hc] at h
  split at h
  · rename_i h2
    exact ⟨h2.1, h2.2, by cases h; rfl⟩
  · cases h
theorem tst_ask {c : Int} {s r : List Int} (hc : c < 0) (hc2 : -9 ≤ c) (h : tst c s = some r) : s.length < 64 ∧ r = 1 :: s := by
  unfold tst at h
  rw [if_neg (by omega), if_pos hc2] at h
  split at h
  · rename_i h2
    exact ⟨h2, by cases h; rfl⟩
  · cases h
theorem tst_not {s r : List Int} (h : tst (-19) s = some r) : ∃ q, s = 3 :: q ∧ r = 3 :: q := by
  unfold tst at h
  rw [if_neg (by decide), if_neg (by decide), if_pos rfl] at h
  cases s with
  | nil => cases h
  | cons b q =>
    dsimp only at h
    split at h
    · rename_i e; subst e; cases h; exact ⟨q, rfl, rfl⟩
    · cases h
theorem w32_r (z : Int) : inr (w32 z) := w32_inr z
theorem tdiv_le {a b : Int} (ha : inr a) (hb : 1 ≤ b) : inr (a.tdiv b) := by
  obtain ⟨h1, h2⟩ := ha
  rcases Int.le_total 0 a with h | h
  · have h3 : a.tdiv b = a / b := Int.tdiv_eq_ediv_of_nonneg h
    have h4 : 0 ≤ a / b := Int.ediv_nonneg h (by omega)
    have h5 : a / b ≤ a := Int.ediv_le_self b h
    rw [h3]; constructor <;> omega
  · have h3 : a.tdiv b = - ((-a) / b) := by
      have := Int.neg_tdiv (-a) b
      rw [Int.neg_neg] at this
      rw [this, Int.tdiv_eq_ediv_of_nonneg (by omega)]
    have h4 : 0 ≤ (-a) / b := Int.ediv_nonneg (by omega) (by omega)
    have h5 : (-a) / b ≤ -a := Int.ediv_le_self b (by omega)
    rw [h3]; constructor <;> omega
theorem tst_two {c : Int} {s r : List Int} (hc : c < -9) (hn : ¬ c = -19) (h : tst c s = some r) : -18 ≤ c ∧ ∃ b a q t, s = b :: a :: q ∧ r = t :: q ∧ (c = -13 → b = 0) ∧ (c = -17 ∨ c = -18 → b = 3 ∧ a = 3) ∧ ∀ x y, vok a x → vok b y → vok t (op2 c x y) := by
  unfold tst at h
  rw [if_neg (by omega), if_neg (by omega), if_neg hn] at h
  cases s with
  | nil => cases h
  | cons b s =>
    cases s with
    | nil => cases h
    | cons a q =>
      dsimp only at h
      split at h
      · rename_i e
        split at h
        · cases h
          refine ⟨by omega, b, a, q, 2, rfl, rfl, by omega, by omega, fun x y _ _ => ?_⟩
          rcases e with e | e <;> subst e
          · exact ⟨w32_r _, by omega, by omega⟩
          · exact ⟨w32_r _, by omega, by omega⟩
        · cases h
      · split at h
        · rename_i e
          split at h
          · cases h
            refine ⟨by omega, b, a, q, 1, rfl, rfl, by omega, by omega, fun x y _ _ => ?_⟩
            subst e
            exact ⟨w32_r _, by omega, by omega⟩
          · cases h
        · split at h
          · rename_i e
            split at h
            · rename_i e2
              cases h
              refine ⟨by omega, b, a, q, 1, rfl, rfl, fun _ => e2.1, by omega, fun x y hx hy => ?_⟩
              subst e
              exact ⟨tdiv_le hx.1 (hy.2.1 e2.1), by omega, by omega⟩
            · cases h
          · split at h
            · rename_i e
              split at h
              · cases h
                refine ⟨by omega, b, a, q, 3, rfl, rfl, by omega, by omega, fun x y _ _ => ?_⟩
                rcases e with e | e | e <;> subst e
                · show vok 3 (if x < y then 1 else 0)
                  split <;> exact ⟨by decide, by omega, by omega⟩
                · show vok 3 (if x = y then 1 else 0)
                  split <;> exact ⟨by decide, by omega, by omega⟩
                · show vok 3 (if y < x then 1 else 0)
                  split <;> exact ⟨by decide, by omega, by omega⟩
              · cases h
            · split at h
              · rename_i e
                split at h
                · rename_i e2
                  cases h
                  refine ⟨by omega, b, a, q, 3, rfl, rfl, by omega, fun _ => e2, fun x y hx hy => ?_⟩
                  have h1 := hx.2.2 e2.2
                  have h2 := hy.2.2 e2.1
                  rcases e with e | e <;> subst e
                  · show vok 3 (x * y)
                    rcases h1 with h1 | h1 <;> rcases h2 with h2 | h2 <;> subst h1 <;> subst h2 <;> exact ⟨by decide, by omega, by omega⟩
                  · show vok 3 (if 0 < x + y then 1 else 0)
                    split <;> exact ⟨by decide, by omega, by omega⟩
                · cases h
              · cases h
def faok (fa : Int → Int) : Prop := ∀ k, 0 ≤ k → k ≤ 8 → inr (fa k)
theorem sok_c {t : Int} {ts vs : List Int} (h : sok (t :: ts) vs) : ∃ v r, vs = v :: r ∧ vok t v ∧ sok ts r := by
  cases vs with
  | nil => exact h.elim
  | cons v r => exact ⟨v, r, rfl, h.1, h.2⟩
/-- a row that holds a stack -/
def rep (r : Int → Int) : List Int → Prop
  | [] => True
  | v :: l => r (l.length : Int) = v ∧ rep r l
theorem rep_up {r r' : Int → Int} : ∀ {l : List Int}, rep r l → (∀ k, 0 ≤ k → k < (l.length : Int) → r' k = r k) → rep r' l
  | [], _, _ => True.intro
  | v :: l, h, e => ⟨by rw [e _ (by omega) (by simp only [List.length_cons]; omega)]; exact h.1, rep_up h.2 (fun k h0 h1 => e k h0 (by simp only [List.length_cons]; omega))⟩
theorem stp_num {fa : Int → Int} {c : Int} {s : List Int} (h : 0 ≤ c) : stp fa c s = c :: s := by unfold stp; rw [if_pos h]
theorem stp_ask {fa : Int → Int} {c : Int} {s : List Int} (h : c < 0) (h2 : -9 ≤ c) : stp fa c s = fa (-1 - c) :: s := by unfold stp; rw [if_neg (by omega), if_pos h2]
theorem stp_not {fa : Int → Int} {b : Int} {s : List Int} : stp fa (-19) (b :: s) = (1 - b) :: s := by unfold stp; rw [if_neg (by decide), if_neg (by decide), if_pos rfl]
theorem stp_two {fa : Int → Int} {c a b : Int} {s : List Int} (h : c < -9) (h2 : ¬ c = -19) : stp fa c (b :: a :: s) = op2 c a b :: s := by unfold stp; rw [if_neg (by omega), if_neg (by omega), if_neg h2]
theorem stp_ok {fa : Int → Int} {c : Int} {ts ts' vs : List Int} (hf : faok fa) (hs : sok ts vs) (h : tst c ts = some ts') : sok ts' (stp fa c vs) := by
  by_cases h0 : 0 ≤ c
  · obtain ⟨h1, -, rfl⟩ := tst_num h0 h
    rw [stp_num h0]
    refine ⟨⟨⟨by omega, by omega⟩, fun e => ?_, fun e => ?_⟩, hs⟩
    · by_cases e2 : c = 0
      · rw [if_pos e2] at e; omega
      · omega
    · by_cases e2 : c = 0
      · rw [if_pos e2] at e; omega
      · rw [if_neg e2] at e; omega
  · by_cases h9 : -9 ≤ c
    · obtain ⟨-, rfl⟩ := tst_ask (by omega) h9 h
      rw [stp_ask (by omega) h9]
      exact ⟨⟨hf _ (by omega) (by omega), by omega, by omega⟩, hs⟩
    · by_cases hn : c = -19
      · subst hn
        obtain ⟨q, rfl, rfl⟩ := tst_not h
        obtain ⟨v, r, rfl, h1, h2⟩ := sok_c hs
        rw [stp_not]
        have := h1.2.2 rfl
        exact ⟨⟨⟨by omega, by omega⟩, by omega, by omega⟩, h2⟩
      · obtain ⟨-, b, a, q, t, rfl, rfl, -, -, hv⟩ := tst_two (by omega) hn h
        obtain ⟨y, r, rfl, h1, h2⟩ := sok_c hs
        obtain ⟨x, r, rfl, h3, h4⟩ := sok_c h2
        rw [stp_two (by omega) hn]
        exact ⟨hv x y h3 h1, h4⟩
theorem ev_ok {fa : Int → Int} (hf : faok fa) : ∀ {l ts ts' vs : List Int}, sok ts vs → tyl l ts = some ts' → sok ts' (ev fa l vs) := by
  intro l
  induction l with
  | nil => intro ts ts' vs hs h; cases h; exact hs
  | cons c l ih =>
    intro ts ts' vs hs h
    obtain ⟨t2, h1, h2⟩ := tyl_c h
    exact ih (stp_ok hf hs h1) h2
theorem tst_len {c : Int} {ts ts' : List Int} (hl : ts.length ≤ 64) (h : tst c ts = some ts') : ts'.length ≤ 64 := by
  by_cases h0 : 0 ≤ c
  · obtain ⟨-, h1, rfl⟩ := tst_num h0 h
    rw [List.length_cons]; omega
  · by_cases h9 : -9 ≤ c
    · obtain ⟨h1, rfl⟩ := tst_ask (by omega) h9 h
      rw [List.length_cons]; omega
    · by_cases hn : c = -19
      · subst hn
        obtain ⟨q, rfl, rfl⟩ := tst_not h
        exact hl
      · obtain ⟨-, b, a, q, t, rfl, rfl, -⟩ := tst_two (by omega) hn h
        simp only [List.length_cons] at *
        omega
theorem tyl_len : ∀ {l ts ts' : List Int}, ts.length ≤ 64 → tyl l ts = some ts' → ts'.length ≤ 64 := by
  intro l
  induction l with
  | nil => intro ts ts' hl h; cases h; exact hl
  | cons c l ih =>
    intro ts ts' hl h
    obtain ⟨t2, h1, h2⟩ := tyl_c h
    exact ih (tst_len hl h1) h2
/-- the place of a run: what has come of the code so far -/
def rst (fa code : Int → Int) (a b k : Int) (r : Int → Int) (top : Int) (vs ts : List Int) : Prop := a ≤ k ∧ k ≤ b ∧ vs = ev fa (sl code a k) [] ∧ tyl (sl code a k) [] = some ts ∧ sok ts vs ∧ top = (vs.length : Int) ∧ rep r vs ∧ vs.length ≤ 64
theorem rst_0 {fa code r : Int → Int} {a b : Int} (h : a ≤ b) : rst fa code a b a r 0 [] [] := ⟨Int.le_refl _, h, by rw [sl_nil (Int.le_refl _)]; rfl, by rw [sl_nil (Int.le_refl _)]; rfl, True.intro, rfl, True.intro, by decide⟩
/-- the next instruction has its types -/
theorem rst_t {fa code r : Int → Int} {a b k top : Int} {vs ts : List Int} {tr : List Int} (h : rst fa code a b k r top vs ts) (hk : k < b) (hw : tyl (sl code a b) [] = some tr) : ∃ ts', tst (code k) ts = some ts' := by
  obtain ⟨h1, h2, h3, h4, -⟩ := h
  rw [sl_split h1 h2, sl_cons hk] at hw
  obtain ⟨t2, e1, e2⟩ := tyl_pre hw
  rw [h4] at e1
  cases e1
  obtain ⟨t3, e3, -⟩ := tyl_c e2
  exact ⟨t3, e3⟩
theorem rst_s {fa code r r' : Int → Int} {a b k top top' : Int} {vs ts ts' : List Int} (hf : faok fa) (h : rst fa code a b k r top vs ts) (hk : k < b) (ht : tst (code k) ts = some ts') (hr : rep r' (stp fa (code k) vs)) (htop : top' = ((stp fa (code k) vs).length : Int)) : rst fa code a b (k + 1) r' top' (stp fa (code k) vs) ts' := by
  obtain ⟨h1, h2, h3, h4, h5, h6, h7, h8⟩ := h
  have hso := stp_ok hf h5 ht
  refine ⟨by omega, by omega, ?_, ?_, hso, htop, hr, ?_⟩
  · rw [sl_s h1, ev_app, ← h3, ev_1]
  · rw [sl_s h1, tyl_app, h4]
    exact ht
  · rw [← sok_len hso]
    exact tst_len (by rw [sok_len h5]; exact h8) ht
