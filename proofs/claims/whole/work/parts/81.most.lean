/-! ===== a bound of what a line pays ===== -/
theorem tst_3 {c : Int} {ts ts' : List Int} (h : tst c ts = some ts') (h3 : (3 : Int) ∈ ts) : (3 : Int) ∈ ts' := by
  by_cases h0 : 0 ≤ c
  · obtain ⟨-, -, rfl⟩ := tst_num h0 h
    exact List.mem_cons_of_mem _ h3
  · by_cases h9 : -9 ≤ c
    · obtain ⟨-, rfl⟩ := tst_ask (by omega) h9 h
      exact List.mem_cons_of_mem _ h3
    · by_cases hn : c = -19
      · subst hn
        obtain ⟨q, rfl, rfl⟩ := tst_not h
        exact h3
      · unfold tst at h
        rw [if_neg h0, if_neg h9, if_neg hn] at h
        cases ts with
        | nil => cases h
        | cons b s =>
          cases s with
          | nil => cases h
          | cons a q =>
            dsimp only at h
            have hq : (3 : Int) = b ∨ (3 : Int) = a ∨ (3 : Int) ∈ q := by simpa using h3
            repeat' split at h
            all_goals (first | (cases h; done) | skip)
            all_goals cases h
            all_goals (rcases hq with e | e | e)
            all_goals (first | exact List.mem_cons_of_mem _ e | exact List.mem_cons_self .. | (exfalso; omega))
theorem tyl_3 : ∀ {l ts ts' : List Int}, tyl l ts = some ts' → (3 : Int) ∈ ts → (3 : Int) ∈ ts' := by
  intro l
  induction l with
  | nil => intro ts ts' h h3; cases h; exact h3
  | cons c l ih =>
    intro ts ts' h h3
    obtain ⟨t2, h1, h2⟩ := tyl_c h
    exact ih h2 (tst_3 h1 h3)
/-- an instruction of a pay -/
theorem tst_pay {c : Int} {ts ts' : List Int} (h : tst c ts = some ts') (h3 : ¬ (3 : Int) ∈ ts') (hc : c < -9) : ∃ b a q, ts = b :: a :: q ∧ ((c = -10 ∨ c = -11) ∧ b ≤ 1 ∧ a ≤ 2 ∧ ts' = 2 :: q ∨ c = -12 ∧ b ≤ 1 ∧ a ≤ 1 ∧ ts' = 1 :: q ∨ c = -13 ∧ b = 0 ∧ a ≤ 1 ∧ ts' = 1 :: q) := by
  have hn : ¬ c = -19 := by
    intro e
    subst e
    obtain ⟨q, -, rfl⟩ := tst_not h
    exact h3 (List.mem_cons_self ..)
  unfold tst at h
  rw [if_neg (by omega), if_neg (by omega), if_neg hn] at h
  cases ts with
  | nil => cases h
  | cons b s =>
    cases s with
    | nil => cases h
    | cons a q =>
      refine ⟨b, a, q, rfl, ?_⟩
      dsimp only at h
      split at h
      · rename_i e
        split at h
        · rename_i e2
          cases h
          exact Or.inl ⟨e, e2.1, e2.2, rfl⟩
        · cases h
      · split at h
        · rename_i e
          split at h
          · rename_i e2
            cases h
            exact Or.inr (Or.inl ⟨e, e2.1, e2.2, rfl⟩)
          · cases h
        · split at h
          · rename_i e
            split at h
            · rename_i e2
              cases h
              exact Or.inr (Or.inr ⟨e, e2.1, e2.2, rfl⟩)
            · cases h
          · split at h
            · split at h
              · cases h
                exact absurd (List.mem_cons_self ..) h3
              · cases h
            · split at h
              · split at h
                · cases h
                  exact absurd (List.mem_cons_self ..) h3
                · cases h
              · cases h
def bnd (fa bd : Int → Int) : Prop := ∀ k, 0 ≤ k → k ≤ 8 → 0 ≤ fa k ∧ fa k ≤ bd k
def vbd (K t v b : Int) : Prop := (0 ≤ t ∧ t ≤ 2) ∧ (0 ≤ b ∧ b ≤ 1000000) ∧ (t = 0 → v = b ∧ 1 ≤ v) ∧ (t ≤ 1 → 0 ≤ v) ∧ v ≤ b ∧ -1000000 * K ≤ v
def bok (K : Int) : List Int → List Int → List Int → Prop
  | [], [], [] => True
  | t :: ts, v :: vs, b :: bs => vbd K t v b ∧ bok K ts vs bs
  | _, _, _ => False
theorem bok_c {K t : Int} {ts vs bs : List Int} (h : bok K (t :: ts) vs bs) : ∃ v b vs' bs', vs = v :: vs' ∧ bs = b :: bs' ∧ vbd K t v b ∧ bok K ts vs' bs' := by
  cases vs with
  | nil => exact h.elim
  | cons v vs =>
    cases bs with
    | nil => exact h.elim
    | cons b bs => exact ⟨v, b, vs, bs, rfl, rfl, h.1, h.2⟩
theorem bok_up {K K' : Int} (h : K ≤ K') : ∀ {ts vs bs : List Int}, bok K ts vs bs → bok K' ts vs bs
  | [], [], [], _ => True.intro
  | t :: ts, v :: vs, b :: bs, q => ⟨⟨q.1.1, q.1.2.1, q.1.2.2.1, q.1.2.2.2.1, q.1.2.2.2.2.1, by have := q.1.2.2.2.2.2; omega⟩, bok_up h q.2⟩
  | [], [], _ :: _, q => q.elim
  | [], _ :: _, _, q => q.elim
  | _ :: _, [], _, q => q.elim
  | _ :: _, _ :: _, [], q => q.elim
theorem bok_len {K : Int} : ∀ {ts vs bs : List Int}, bok K ts vs bs → ts.length = bs.length
  | [], [], [], _ => rfl
  | t :: ts, v :: vs, b :: bs, q => by rw [List.length_cons, List.length_cons, bok_len q.2]
  | [], [], _ :: _, q => q.elim
  | [], _ :: _, _, q => q.elim
  | _ :: _, [], _, q => q.elim
  | _ :: _, _ :: _, [], q => q.elim
/-- the bound of two -/
def bop (c a b : Int) : Int := if c = -10 then a + b else if c = -12 then a * b else if c = -13 ∧ 0 < b then a / b else a
theorem mul_le2 {a b A B : Int} (h0 : 0 ≤ a) (h1 : a ≤ A) (h2 : 0 ≤ b) (h3 : b ≤ B) : 0 ≤ a * b ∧ a * b ≤ A * B := ⟨Int.mul_nonneg h0 h2, Int.mul_le_mul h1 h3 h2 (by omega)⟩
theorem bok_op {K c ta tb va vb ba bb : Int} {t' : Int} (hK : 0 ≤ K ∧ K ≤ 400) (ha : vbd K ta va ba) (hb : vbd K tb vb bb) (h : (c = -10 ∨ c = -11) ∧ tb ≤ 1 ∧ ta ≤ 2 ∧ t' = 2 ∨ c = -12 ∧ tb ≤ 1 ∧ ta ≤ 1 ∧ t' = 1 ∨ c = -13 ∧ tb = 0 ∧ ta ≤ 1 ∧ t' = 1) (hm : bop c ba bb ≤ 1000000) : vbd (K + 1) t' (op2 c va vb) (bop c ba bb) := by
  obtain ⟨a1, a2, a3, a4, a5, a6⟩ := ha
  obtain ⟨b1, b2, b3, b4, b5, b6⟩ := hb
  rcases h with ⟨hc, ht, ht2, rfl⟩ | ⟨rfl, ht, ht2, rfl⟩ | ⟨rfl, ht, ht2, rfl⟩
  · have hb0 := b4 ht
    rcases hc with rfl | rfl
    · have e : op2 (-10) va vb = va + vb := w32_id ⟨by omega, by omega⟩
      have e2 : bop (-10) ba bb = ba + bb := rfl
      rw [e]
      rw [e2] at hm ⊢
      exact ⟨by omega, by omega, by omega, by omega, by omega, by omega⟩
    · have e : op2 (-11) va vb = va - vb := w32_id ⟨by omega, by omega⟩
      have e2 : bop (-11) ba bb = ba := rfl
      rw [e]
      rw [e2] at hm ⊢
      exact ⟨by omega, by omega, by omega, by omega, by omega, by omega⟩
  · have hb0 := b4 ht
    have ha0 := a4 ht2
    obtain ⟨m1, m2⟩ := mul_le2 ha0 a5 hb0 b5
    have e2 : bop (-12) ba bb = ba * bb := rfl
    rw [e2] at hm ⊢
    have e : op2 (-12) va vb = va * vb := w32_id ⟨by omega, by omega⟩
    rw [e]
    exact ⟨by omega, ⟨by omega, hm⟩, by omega, fun _ => m1, m2, by omega⟩
  · have ha0 := a4 ht2
    obtain ⟨q1, q2⟩ := b3 ht
    subst q1
    have e : op2 (-13) va vb = va.tdiv vb := rfl
    have e2 : bop (-13) ba vb = ba / vb := by unfold bop; rw [if_neg (by decide), if_neg (by decide), if_pos ⟨rfl, by omega⟩]
    rw [e, Int.tdiv_eq_ediv_of_nonneg ha0]
    rw [e2] at hm ⊢
    have d1 : 0 ≤ va / vb := Int.ediv_nonneg ha0 (by omega)
    have d2 : va / vb ≤ ba / vb := Int.ediv_le_ediv (by omega) a5
    exact ⟨by omega, ⟨by omega, hm⟩, by omega, fun _ => d1, d2, by omega⟩
/-- a bound's run has come to k -/
def mrs (bd code : Int → Int) (a b k : Int) (r : Int → Int) (top : Int) (bs ts : List Int) : Prop := a ≤ k ∧ k ≤ b ∧ tyl (sl code a k) [] = some ts ∧ top = (bs.length : Int) ∧ rep r bs ∧ ts.length ≤ 64 ∧ ∀ fa, bnd fa bd → bok (k - a) ts (ev fa (sl code a k) []) bs
section MR
variable {bd code r : Int → Int} {a b k top t : Int} {bs ts : List Int}
theorem mrs_0 (h : a ≤ b) : mrs bd code a b a r 0 [] [] := ⟨Int.le_refl _, h, by rw [sl_nil (Int.le_refl _)]; rfl, rfl, True.intro, by decide, fun fa _ => by rw [sl_nil (Int.le_refl _)]; exact True.intro⟩
theorem mrs_t (h : mrs bd code a b k r top bs ts) (hk : k < b) (ht : t ≤ 2) (hw : tyl (sl code a b) [] = some [t]) : ∃ ts', tst (code k) ts = some ts' ∧ ¬ (3 : Int) ∈ ts' := by
  obtain ⟨h1, h2, h3, -⟩ := h
  rw [sl_split h1 h2, sl_cons hk] at hw
  obtain ⟨t2, e1, e2⟩ := tyl_pre hw
  rw [h3] at e1
  cases e1
  obtain ⟨t3, e3, e4⟩ := tyl_c e2
  refine ⟨t3, e3, fun q => ?_⟩
  have := tyl_3 e4 q
  simp at this
  omega
theorem mrs_num {ts' : List Int} (hbd : ∀ q, 0 ≤ q → q ≤ 8 → 0 ≤ bd q ∧ bd q ≤ 9999) (h : mrs bd code a b k r top bs ts) (hk : k < b) (ht : tst (code k) ts = some ts') (hc : -9 ≤ code k) : 0 ≤ top ∧ top < 64 ∧ ∀ r' : Int → Int, r' top = (if 0 ≤ code k then code k else bd (-1 - code k)) → (∀ j, 0 ≤ j → j < top → r' j = r j) → ∃ bs', mrs bd code a b (k + 1) r' (top + 1) bs' ts' := by
  obtain ⟨h1, h2, h3, h4, h5, h6, h7⟩ := h
  have hb0 : bnd bd bd := fun q q0 q1 => ⟨(hbd q q0 q1).1, Int.le_refl _⟩
  have hl := bok_len (h7 bd hb0)
  have hlen : ts.length < 64 ∧ ts' = (if 0 ≤ code k then (if code k = 0 then 1 else 0) else 1) :: ts ∧ (0 ≤ code k → code k ≤ 9999) := by
    by_cases h0 : 0 ≤ code k
    · obtain ⟨q1, q2, q3⟩ := tst_num h0 ht
      rw [if_pos h0]
      exact ⟨q2, q3, fun _ => q1⟩
    · obtain ⟨q2, q3⟩ := tst_ask (by omega) hc ht
      rw [if_neg h0]
      exact ⟨q2, q3, fun e => absurd e h0⟩
  obtain ⟨l1, l2, l3⟩ := hlen
  refine ⟨by omega, by omega, fun r' hr0 hr1 => ⟨(if 0 ≤ code k then code k else bd (-1 - code k)) :: bs, by omega, by omega, ?_, ?_, ?_, ?_, fun fa hfa => ?_⟩⟩
  · rw [sl_s h1, tyl_app, h3]; exact ht
  · rw [List.length_cons]; omega
  · exact rep_eq h5 (by rw [← h4]; exact hr0) (fun j q0 q1 => hr1 j q0 (by omega))
  · rw [l2, List.length_cons]; omega
  · rw [sl_s h1, ev_app, ev_1, l2]
    have hb := bok_up (K' := k + 1 - a) (by omega) (h7 fa hfa)
    by_cases h0 : 0 ≤ code k
    · have := l3 h0
      rw [stp_num h0, if_pos h0, if_pos h0]
      refine ⟨⟨?_, by omega, ?_, by omega, by omega, by omega⟩, hb⟩
      · split <;> omega
      · split <;> omega
    · have q := hfa (-1 - code k) (by omega) (by omega)
      have q2 := hbd (-1 - code k) (by omega) (by omega)
      rw [stp_ask (by omega) hc, if_neg h0, if_neg h0]
      exact ⟨⟨by omega, by omega, by omega, by omega, by omega, by omega⟩, hb⟩
theorem mrs_op {ts' : List Int} (hbd : ∀ q, 0 ≤ q → q ≤ 8 → 0 ≤ bd q ∧ bd q ≤ 9999) (hab : 0 ≤ a ∧ b ≤ 400) (h : mrs bd code a b k r top bs ts) (hk : k < b) (ht : tst (code k) ts = some ts') (h3' : ¬ (3 : Int) ∈ ts') (hc : code k < -9) : 2 ≤ top ∧ top ≤ 64 ∧ (0 ≤ r (top - 1 - 1) ∧ r (top - 1 - 1) ≤ 1000000) ∧ (0 ≤ r (top - 1) ∧ r (top - 1) ≤ 1000000) ∧ (code k = -10 ∨ code k = -11 ∨ code k = -12 ∨ code k = -13) ∧ ∀ r' : Int → Int, bop (code k) (r (top - 1 - 1)) (r (top - 1)) ≤ 1000000 → r' (top - 1 - 1) = bop (code k) (r (top - 1 - 1)) (r (top - 1)) → (∀ j, 0 ≤ j → j < top - 1 - 1 → r' j = r j) → ∃ bs', mrs bd code a b (k + 1) r' (top - 1) bs' ts' := by
  obtain ⟨h1, h2, h3, h4, h5, h6, h7⟩ := h
  have hb0 : bnd bd bd := fun q q0 q1 => ⟨(hbd q q0 q1).1, Int.le_refl _⟩
  obtain ⟨tb, ta, q, rfl, hcs⟩ := tst_pay ht h3' hc
  obtain ⟨v1, B, vs1, bs1, -, rfl, w1, w2⟩ := bok_c (h7 bd hb0)
  obtain ⟨v2, A, vs2, bs2, -, rfl, w3, w4⟩ := bok_c w2
  simp only [List.length_cons] at h4 h6
  have hB : r (top - 1) = B := by
    have := h5.1
    rw [List.length_cons] at this
    rw [show top - 1 = ((bs2.length + 1 : Nat) : Int) by omega]; exact this
  have hA : r (top - 1 - 1) = A := by rw [show top - 1 - 1 = (bs2.length : Int) by omega]; exact h5.2.1
  have hl := bok_len w4
  obtain ⟨t', ht', hcs'⟩ : ∃ t', ts' = t' :: q ∧ ((code k = -10 ∨ code k = -11) ∧ tb ≤ 1 ∧ ta ≤ 2 ∧ t' = 2 ∨ code k = -12 ∧ tb ≤ 1 ∧ ta ≤ 1 ∧ t' = 1 ∨ code k = -13 ∧ tb = 0 ∧ ta ≤ 1 ∧ t' = 1) := by
    rcases hcs with ⟨q1, q2, q3, q4⟩ | ⟨q1, q2, q3, q4⟩ | ⟨q1, q2, q3, q4⟩
    · exact ⟨2, q4, Or.inl ⟨q1, q2, q3, rfl⟩⟩
    · exact ⟨1, q4, Or.inr (Or.inl ⟨q1, q2, q3, rfl⟩)⟩
    · exact ⟨1, q4, Or.inr (Or.inr ⟨q1, q2, q3, rfl⟩)⟩
  rw [hA, hB]
  refine ⟨by omega, by omega, w3.2.1, w1.2.1, by omega, fun r' hm hr0 hr1 => ⟨bop (code k) A B :: bs2, by omega, by omega, ?_, ?_, ?_, ?_, fun fa hfa => ?_⟩⟩
  · rw [sl_s h1, tyl_app, h3]; exact ht
  · rw [List.length_cons]; omega
  · exact rep_eq h5.2.2 (by rw [show (bs2.length : Int) = top - 1 - 1 by omega]; exact hr0) (fun j q0 q1 => hr1 j q0 (by omega))
  · rw [ht', List.length_cons]; omega
  · rw [sl_s h1, ev_app, ev_1, ht']
    obtain ⟨y, B', vs', bs', e1, e2, e3, e4⟩ := bok_c (h7 fa hfa)
    obtain ⟨x, A', vs'', bs'', e5, e6, e7, e8⟩ := bok_c e4
    cases e2
    cases e6
    rw [e1, e5, stp_two hc (by omega)]
    have := bok_op (t' := t') (c := code k) (by omega) e7 e3 hcs' hm
    rw [show k - a + 1 = k + 1 - a by omega] at this
    exact ⟨this, bok_up (by omega) e8⟩
theorem mrs_end {t : Int} (hbd : ∀ q, 0 ≤ q → q ≤ 8 → 0 ≤ bd q ∧ bd q ≤ 9999) (h : mrs bd code a b k r top bs ts) (hk : k = b) (ht : t ≤ 2) (hw : tyl (sl code a b) [] = some [t]) : top = 1 ∧ 0 ≤ r 0 ∧ ∀ fa, bnd fa bd → hdv (ev fa (sl code a b) []) ≤ r 0 := by
  obtain ⟨h1, h2, h3, h4, h5, h6, h7⟩ := h
  subst hk
  rw [h3] at hw
  have e : ts = [t] := Option.some.inj hw
  subst e
  have hb0 : bnd bd bd := fun q q0 q1 => ⟨(hbd q q0 q1).1, Int.le_refl _⟩
  obtain ⟨v, B, vs, bs', -, rfl, w1, w2⟩ := bok_c (h7 bd hb0)
  cases bs' with
  | cons _ _ => cases vs <;> exact w2.elim
  | nil =>
    have hr : r 0 = B := h5.1
    refine ⟨h4, by rw [hr]; exact w1.2.1.1, fun fa hfa => ?_⟩
    obtain ⟨v2, B2, vs2, bs2, e1, e2, e3, e4⟩ := bok_c (h7 fa hfa)
    cases e2
    rw [e1, hr]
    exact e3.2.2.2.2.1
end MR
