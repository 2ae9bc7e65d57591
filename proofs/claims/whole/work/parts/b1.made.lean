/-! ===== the machine that reads a text makes well made code ===== -/
/-- what stands on top, by mode -/
def mdK (m : Nat) (x : Int) : Prop := match m with
  | 1 => isB x ∨ x = 2 ∨ x = 3 ∨ x = 4
  | 2 => isB x ∨ (2 ≤ x ∧ x ≤ 5)
  | 3 => x = 5
  | 4 => isB x ∨ x = 2 ∨ x = 3
  | 5 => isB x
  | 6 => isB x
  | 8 => isC x
  | 9 => isC x
  | 10 => x = 22 ∨ (10 ≤ x ∧ x ≤ 12)
  | 11 => x = 22 ∨ x = 11 ∨ x = 12
  | 12 => x = 22 ∨ x = 11 ∨ x = 12
  | 13 => x = 22 ∨ x = 12
  | 14 => x = 22 ∨ x = 12
  | _ => False
/-- the types, by mode -/
def shM (m : Nat) (K ts : List Int) : Prop := match m with
  | 1 => sh K ts
  | 2 => ∃ t r, ts = t :: r ∧ t ≤ 1 ∧ (hdv K = 5 → t = 0) ∧ sh K r
  | 3 => sh K ts
  | 4 => ∃ t r, ts = t :: r ∧ t ≤ 1 ∧ sh K r
  | 5 => ∃ t r, ts = t :: r ∧ t ≤ 2 ∧ sh K r
  | 6 => ∃ t r, ts = t :: r ∧ t ≤ 2 ∧ sh K r
  | 8 => sh K ts
  | _ => ∃ r, ts = 3 :: r ∧ sh K r
/-- in the midst of a line -/
def JM (m : Nat) (K C W : List Int) : Prop := ∃ D ts, JP (bot K) C W D ∧ tyl D [] = some ts ∧ okK K ∧ opn K ≤ 8 ∧ mdK m (hdv K) ∧ shM m K ts
def JJ (s : PM) : Prop := match s.1 with
  | 0 => JP false s.2.2.2.1 s.2.2.2.2 []
  | 7 => JP true s.2.2.2.1 s.2.2.2.2 []
  | 16 => ∃ D, JP true s.2.2.2.1 s.2.2.2.2 D ∧ (D = [] ∨ tyl D [] = some [3])
  | 99 => JP false s.2.2.2.1 s.2.2.2.2 []
  | 100 => True
  | 1 => JM 1 s.2.1 s.2.2.2.1 s.2.2.2.2
  | 2 => JM 2 s.2.1 s.2.2.2.1 s.2.2.2.2
  | 3 => JM 3 s.2.1 s.2.2.2.1 s.2.2.2.2
  | 4 => JM 4 s.2.1 s.2.2.2.1 s.2.2.2.2
  | 5 => JM 5 s.2.1 s.2.2.2.1 s.2.2.2.2
  | 6 => JM 6 s.2.1 s.2.2.2.1 s.2.2.2.2
  | 8 => JM 8 s.2.1 s.2.2.2.1 s.2.2.2.2
  | 9 => JM 9 s.2.1 s.2.2.2.1 s.2.2.2.2
  | 10 => JM 10 s.2.1 s.2.2.2.1 s.2.2.2.2
  | 11 => JM 11 s.2.1 s.2.2.2.1 s.2.2.2.2
  | 12 => JM 12 s.2.1 s.2.2.2.1 s.2.2.2.2
  | 13 => JM 13 s.2.1 s.2.2.2.1 s.2.2.2.2
  | 14 => JM 14 s.2.1 s.2.2.2.1 s.2.2.2.2
  | _ => False
theorem hd_c {K : List Int} (h : ¬ hdv K = 0) : ∃ x R, K = x :: R ∧ hdv K = x := by
  cases K with
  | nil => exact absurd rfl h
  | cons x R => exact ⟨x, R, rfl, rfl⟩
theorem bot_c {x : Int} {K : List Int} (h1 : ¬ x = 22) (h2 : ¬ x = 20) : bot (x :: K) = bot K := by rw [bot, if_neg h1, if_neg h2]
section JS
variable {k b a : Int} {K C W : List Int}
theorem j_0 (h : JJ (0, K, a, C, W)) : JJ (ps1 k b 0 K a C W) := by
  show JJ (if k = 0 then _ else if k = 3 then (if 32 ≤ W.length then _ else _) else _)
  have h : JP false C W [] := h
  split
  · exact h
  · split
    · split
      · trivial
      · exact (⟨[], [], h, rfl, ⟨True.intro, Or.inl ⟨Or.inl rfl, rfl⟩⟩, by decide, Or.inl (Or.inl rfl), (sh_n (by decide)).mpr rfl⟩ : JM 1 [20] C W)
    · trivial
theorem ok_len {K ts : List Int} (ho : okK K) (hn : opn K ≤ 8) (h : sh K ts) : ts.length < 60 := by
  have h1 := sh_len ho h
  have h2 := lvK_r (hdv K)
  omega
theorem j_1 (hk : k ≤ 10999) (h : JJ (1, K, a, C, W)) : JJ (ps1 k b 1 K a C W) := by
  show JJ (if 1000 ≤ k then _ else if 8 ≤ k ∧ k ≤ 16 then _ else _)
  obtain ⟨D, ts, h1, h2, h3, h4, h5, h6⟩ : JM 1 K C W := h
  have hl := ok_len h3 h4 h6
  have h5 : isB (hdv K) ∨ hdv K = 2 ∨ hdv K = 3 ∨ hdv K = 4 := h5
  unfold isB at h5
  split
  · exact (⟨D ++ [k - 1000], _, JP_s h1, (tyl_s h2).trans (tn (by omega) (by omega) (by omega)), h3, h4, by show isB (hdv K) ∨ (2 ≤ hdv K ∧ hdv K ≤ 5); unfold isB; omega, _, _, rfl, by split <;> omega, fun e => by omega, h6⟩ : JM 2 K (C ++ [k - 1000]) W)
  · split
    · exact (⟨D ++ [7 - k], _, JP_s h1, (tyl_s h2).trans (ta (by omega) (by omega) (by omega)), h3, h4, by show isB (hdv K) ∨ (2 ≤ hdv K ∧ hdv K ≤ 5); unfold isB; omega, _, _, rfl, by decide, fun e => by omega, h6⟩ : JM 2 K (C ++ [7 - k]) W)
    · trivial
theorem j_3 (hk : k ≤ 10999) (h : JJ (3, K, a, C, W)) : JJ (ps1 k b 3 K a C W) := by
  show JJ (if k < 1000 then _ else if k = 1000 then _ else _)
  obtain ⟨D, ts, h1, h2, h3, h4, h5, h6⟩ : JM 3 K C W := h
  have hl := ok_len h3 h4 h6
  have h5 : hdv K = 5 := h5
  split
  · trivial
  · split
    · trivial
    · exact (⟨D ++ [k - 1000], _, JP_s h1, (tyl_s h2).trans (tn (by omega) (by omega) (by omega)), h3, h4, by show isB (hdv K) ∨ (2 ≤ hdv K ∧ hdv K ≤ 5); omega, _, _, rfl, by split <;> omega, fun _ => by rw [if_neg (by omega)], h6⟩ : JM 2 K (C ++ [k - 1000]) W)
theorem j_2 (h : JJ (2, K, a, C, W)) : JJ (ps1 k b 2 K a C W) := by
  show JJ (if hdv K = 4 then _ else if hdv K = 5 then _ else if k = 42 then _ else if k = 47 then _ else _)
  obtain ⟨D, ts, h1, h2, h3, h4, h5, t, r, rfl, h6, h7, h8⟩ : JM 2 K C W := h
  have h5 : isB (hdv K) ∨ (2 ≤ hdv K ∧ hdv K ≤ 5) := h5
  unfold isB at h5
  obtain ⟨x, R, rfl, hx⟩ := hd_c (K := K) (by omega)
  rw [hx] at h5 h7 ⊢
  split
  · rename_i e
    subst e
    obtain ⟨t2, r2, rfl, h9, h10⟩ := (sh_4 (by decide)).mp h8
    have h3' := h3.2
    unfold isB isC at h3'
    exact (⟨D ++ [-12], _, by have := JP_s (x := -12) h1; rw [bot_c (by decide) (by decide)] at this; exact this, (tyl_s h2).trans (t12 h6 h9), h3.1, by have := h4; rw [opn, if_neg (by decide)] at this; show opn R ≤ 8; omega, by show isB (hdv R) ∨ (2 ≤ hdv R ∧ hdv R ≤ 5); unfold isB; omega, _, _, rfl, by decide, fun e => by have e : hdv R = 5 := e; omega, h10⟩ : JM 2 R (C ++ [-12]) W)
  · split
    · rename_i e
      subst e
      obtain ⟨t2, r2, rfl, h9, h10⟩ := (sh_4 (by decide)).mp h8
      have h3' := h3.2
      unfold isB isC at h3'
      exact (⟨D ++ [-13], _, by have := JP_s (x := -13) h1; rw [bot_c (by decide) (by decide)] at this; exact this, (tyl_s h2).trans (t13 (h7 rfl) h9), h3.1, by have := h4; rw [opn, if_neg (by decide)] at this; show opn R ≤ 8; omega, by show isB (hdv R) ∨ (2 ≤ hdv R ∧ hdv R ≤ 5); unfold isB; omega, _, _, rfl, by decide, fun e => by have e : hdv R = 5 := e; omega, h10⟩ : JM 2 R (C ++ [-13]) W)
    · rename_i n4 n5
      split
      · exact (⟨D, _, by rw [bot_c (by decide) (by decide)]; exact h1, h2, ⟨h3, Or.inr (Or.inr (Or.inr (Or.inl ⟨by decide, by show isB x ∨ x = 2 ∨ x = 3; unfold isB; omega⟩)))⟩, by rw [opn, if_neg (by decide)]; omega, Or.inr (Or.inr (Or.inr rfl)), (sh_4 (by decide)).mpr ⟨_, _, rfl, h6, h8⟩⟩ : JM 1 (4 :: x :: R) C W)
      · split
        · exact (⟨D, _, by rw [bot_c (by decide) (by decide)]; exact h1, h2, ⟨h3, Or.inr (Or.inr (Or.inr (Or.inl ⟨by decide, by show isB x ∨ x = 2 ∨ x = 3; unfold isB; omega⟩)))⟩, by rw [opn, if_neg (by decide)]; omega, rfl, (sh_4 (by decide)).mpr ⟨_, _, rfl, h6, h8⟩⟩ : JM 3 (5 :: x :: R) C W)
        · exact (⟨D, _, h1, h2, h3, h4, by show isB x ∨ x = 2 ∨ x = 3; unfold isB; omega, _, _, rfl, h6, h8⟩ : JM 4 (x :: R) C W)
theorem j_4 (h : JJ (4, K, a, C, W)) : JJ (ps1 k b 4 K a C W) := by
  show JJ (if hdv K = 2 then _ else if hdv K = 3 then _ else _)
  obtain ⟨D, ts, h1, h2, h3, h4, h5, t, r, rfl, h6, h8⟩ : JM 4 K C W := h
  have h5 : isB (hdv K) ∨ hdv K = 2 ∨ hdv K = 3 := h5
  unfold isB at h5
  obtain ⟨x, R, rfl, hx⟩ := hd_c (K := K) (by omega)
  rw [hx] at h5 ⊢
  split
  · rename_i e
    subst e
    obtain ⟨t2, r2, rfl, h9, h10⟩ := (sh_2 (by decide)).mp h8
    have h3' := h3.2
    unfold isB isC at h3'
    exact (⟨D ++ [-10], _, by have := JP_s (x := -10) h1; rw [bot_c (by decide) (by decide)] at this; exact this, (tyl_s h2).trans (t10 (by decide) h6 h9), h3.1, by have := h4; rw [opn, if_neg (by decide)] at this; show opn R ≤ 8; omega, by show isB (hdv R); unfold isB; omega, _, _, rfl, by decide, h10⟩ : JM 5 R (C ++ [-10]) W)
  · split
    · rename_i e
      subst e
      obtain ⟨t2, r2, rfl, h9, h10⟩ := (sh_2 (by decide)).mp h8
      have h3' := h3.2
      unfold isB isC at h3'
      exact (⟨D ++ [-11], _, by have := JP_s (x := -11) h1; rw [bot_c (by decide) (by decide)] at this; exact this, (tyl_s h2).trans (t10 (by decide) h6 h9), h3.1, by have := h4; rw [opn, if_neg (by decide)] at this; show opn R ≤ 8; omega, by show isB (hdv R); unfold isB; omega, _, _, rfl, by decide, h10⟩ : JM 5 R (C ++ [-11]) W)
    · exact (⟨D, _, h1, h2, h3, h4, by show isB x; unfold isB; omega, _, _, rfl, by omega, h8⟩ : JM 5 (x :: R) C W)
theorem j_5 (h : JJ (5, K, a, C, W)) : JJ (ps1 k b 5 K a C W) := by
  show JJ (if k = 43 then _ else if k = 45 then _ else _)
  obtain ⟨D, ts, h1, h2, h3, h4, h5, t, r, rfl, h6, h8⟩ : JM 5 K C W := h
  have h5 : isB (hdv K) := h5
  split
  · exact (⟨D, _, by rw [bot_c (by decide) (by decide)]; exact h1, h2, ⟨h3, Or.inr (Or.inr (Or.inl ⟨by decide, h5⟩))⟩, by rw [opn, if_neg (by decide)]; omega, Or.inr (Or.inl rfl), (sh_2 (by decide)).mpr ⟨_, _, rfl, h6, h8⟩⟩ : JM 1 (2 :: K) C W)
  · split
    · exact (⟨D, _, by rw [bot_c (by decide) (by decide)]; exact h1, h2, ⟨h3, Or.inr (Or.inr (Or.inl ⟨by decide, h5⟩))⟩, by rw [opn, if_neg (by decide)]; omega, Or.inr (Or.inr (Or.inl rfl)), (sh_2 (by decide)).mpr ⟨_, _, rfl, h6, h8⟩⟩ : JM 1 (3 :: K) C W)
    · exact (⟨D, _, h1, h2, h3, h4, h5, _, _, rfl, h6, h8⟩ : JM 6 K C W)
theorem j_6 (h : JJ (6, K, a, C, W)) : JJ (ps1 k b 6 K a C W) := by
  show JJ (if hdv K = 20 then _ else if hdv K = 21 then (if k = 60 then _ else if k = 61 then _ else if k = 62 then _ else _) else _)
  obtain ⟨D, ts, h1, h2, h3, h4, h5, t, r, rfl, h6, h8⟩ : JM 6 K C W := h
  have h5 : isB (hdv K) := h5
  unfold isB at h5
  obtain ⟨x, R, rfl, hx⟩ := hd_c (K := K) (by omega)
  rw [hx] at h5 ⊢
  have h3' := h3.2
  split
  · rename_i e
    subst e
    have hR : R = [] := by
      rcases h3' with q | q | q | q | q | q | q <;> first | exact q.2 | (exfalso; omega)
    subst hR
    have hr : r = [] := (sh_n (by decide)).mp h8
    subst hr
    exact JP_pay h1 h6 h2
  · split
    · rename_i e
      subst e
      have hC : isC (hdv R) := by
        rcases h3' with q | q | q | q | q | q | q <;> first | exact q.2 | (exfalso; omega)
      have h8 := (sh_n (by decide)).mp h8
      have h4 : opn R ≤ 8 := by rw [opn, if_neg (by decide)] at h4; omega
      rw [bot_c (by decide) (by decide)] at h1
      have key : ∀ y : Int, 6 ≤ y → y ≤ 8 → JJ (1, y :: R, b, C, W) := fun y y0 y1 => (⟨D, _, by rw [bot_c (by omega) (by omega)]; exact h1, h2, ⟨h3.1, Or.inr (Or.inl ⟨Or.inr ⟨y0, y1⟩, hC⟩)⟩, by rw [opn, if_neg (by omega)]; omega, Or.inl (Or.inr (Or.inr ⟨y0, y1⟩)), (sh_2 (by omega)).mpr ⟨_, _, rfl, h6, h8⟩⟩ : JM 1 (y :: R) C W)
      split
      · exact key 6 (by decide) (by decide)
      · split
        · exact key 7 (by decide) (by decide)
        · split
          · exact key 8 (by decide) (by decide)
          · trivial
    · have hC : isC (hdv R) := by
        rcases h3' with q | q | q | q | q | q | q <;> first | exact q.2 | (exfalso; omega)
      obtain ⟨t2, r2, rfl, h9, h10⟩ := (sh_2 (by omega)).mp h8
      exact (⟨D ++ [-8 - x], _, by have := JP_s (x := -8 - x) h1; rw [bot_c (by omega) (by omega)] at this; exact this, (tyl_s h2).trans (t14 (by omega) h6 h9), h3.1, by have := h4; rw [opn, if_neg (by omega)] at this; show opn R ≤ 8; omega, hC, _, rfl, h10⟩ : JM 9 R (C ++ [-8 - x]) W)
theorem j_7 (h : JJ (7, K, a, C, W)) : JJ (ps1 k b 7 K a C W) := by
  show JJ (if k = 4 then _ else _)
  have h : JP true C W [] := h
  split
  · exact (⟨[], [], h, rfl, ⟨True.intro, Or.inl ⟨Or.inr rfl, rfl⟩⟩, by decide, Or.inl rfl, (sh_n (by decide)).mpr rfl⟩ : JM 8 [22] C W)
  · exact ⟨[], h, Or.inl rfl⟩
theorem j_8 (h : JJ (8, K, a, C, W)) : JJ (ps1 k b 8 K a C W) := by
  show JJ (if k = 7 ∨ k = 40 then (if 8 ≤ opn K then _ else (8, (if k = 7 then 9 else 12) :: K, b, C, W)) else _)
  obtain ⟨D, ts, h1, h2, h3, h4, h5, h6⟩ : JM 8 K C W := h
  have h5 : isC (hdv K) := h5
  split
  · split
    · trivial
    · have key : ∀ y : Int, (y = 9 ∨ y = 12) → JJ (8, y :: K, b, C, W) := fun y hy => (⟨D, _, by rw [bot_c (by omega) (by omega)]; exact h1, h2, ⟨h3, Or.inr (Or.inr (Or.inr (Or.inr (Or.inl ⟨hy, h5⟩))))⟩, by rw [opn, if_pos hy]; omega, by show isC y; unfold isC; omega, (sh_n (by omega)).mpr h6⟩ : JM 8 (y :: K) C W)
      split
      · exact key 9 (by decide)
      · exact key 12 (by decide)
  · exact (⟨D, _, by rw [bot_c (by decide) (by decide)]; exact h1, h2, ⟨h3, Or.inr (Or.inl ⟨Or.inl rfl, h5⟩)⟩, by rw [opn, if_neg (by decide)]; omega, Or.inl (Or.inr (Or.inl rfl)), (sh_n (by decide)).mpr h6⟩ : JM 1 (21 :: K) C W)
theorem j_9 (h : JJ (9, K, a, C, W)) : JJ (ps1 k b 9 K a C W) := by
  show JJ (if hdv K = 9 then _ else _)
  obtain ⟨D, ts, h1, h2, h3, h4, h5, r, rfl, h8⟩ : JM 9 K C W := h
  have h5 : isC (hdv K) := h5
  unfold isC at h5
  obtain ⟨x, R, rfl, hx⟩ := hd_c (K := K) (by omega)
  rw [hx] at h5 ⊢
  have h3' := h3.2
  split
  · rename_i e
    subst e
    have hC : isC (hdv R) := by
      rcases h3' with q | q | q | q | q | q | q <;> first | exact q.2 | (exfalso; omega)
    exact (⟨D ++ [-19], _, by have := JP_s (x := -19) h1; rw [bot_c (by decide) (by decide)] at this; exact this, (tyl_s h2).trans t19, h3.1, by have := h4; rw [opn, if_pos (by decide)] at this; show opn R ≤ 8; omega, hC, _, rfl, (sh_n (by decide)).mp h8⟩ : JM 9 R (C ++ [-19]) W)
  · exact (⟨D, _, h1, h2, h3, h4, by show x = 22 ∨ (10 ≤ x ∧ x ≤ 12); omega, _, rfl, h8⟩ : JM 10 (x :: R) C W)
theorem j_10 (h : JJ (10, K, a, C, W)) : JJ (ps1 k b 10 K a C W) := by
  show JJ (if hdv K = 10 then _ else _)
  obtain ⟨D, ts, h1, h2, h3, h4, h5, r, rfl, h8⟩ : JM 10 K C W := h
  have h5 : hdv K = 22 ∨ (10 ≤ hdv K ∧ hdv K ≤ 12) := h5
  obtain ⟨x, R, rfl, hx⟩ := hd_c (K := K) (by omega)
  rw [hx] at h5 ⊢
  have h3' := h3.2
  split
  · rename_i e
    subst e
    have hC : hdv R = 22 ∨ hdv R = 11 ∨ hdv R = 12 := by
      rcases h3' with q | q | q | q | q | q | q <;> first | exact q.2 | (exfalso; omega)
    obtain ⟨r2, rfl, h10⟩ := (sh_10 (by decide)).mp h8
    exact (⟨D ++ [-17], _, by have := JP_s (x := -17) h1; rw [bot_c (by decide) (by decide)] at this; exact this, (tyl_s h2).trans (t17 (by decide)), h3.1, by have := h4; rw [opn, if_neg (by decide)] at this; show opn R ≤ 8; omega, by show hdv R = 22 ∨ (10 ≤ hdv R ∧ hdv R ≤ 12); omega, _, rfl, h10⟩ : JM 10 R (C ++ [-17]) W)
  · exact (⟨D, _, h1, h2, h3, h4, by show x = 22 ∨ x = 11 ∨ x = 12; omega, _, rfl, h8⟩ : JM 11 (x :: R) C W)
theorem j_11 (h : JJ (11, K, a, C, W)) : JJ (ps1 k b 11 K a C W) := by
  show JJ (if k = 6 then _ else _)
  obtain ⟨D, ts, h1, h2, h3, h4, h5, r, rfl, h8⟩ : JM 11 K C W := h
  have h5 : hdv K = 22 ∨ hdv K = 11 ∨ hdv K = 12 := h5
  split
  · exact (⟨D, _, by rw [bot_c (by decide) (by decide)]; exact h1, h2, ⟨h3, Or.inr (Or.inr (Or.inr (Or.inr (Or.inr (Or.inl ⟨rfl, h5⟩)))))⟩, by rw [opn, if_neg (by decide)]; omega, Or.inr (show (9 : Int) ≤ 10 ∧ (10 : Int) ≤ 12 from by decide), (sh_10 (by decide)).mpr ⟨_, rfl, h8⟩⟩ : JM 8 (10 :: K) C W)
  · exact (⟨D, _, h1, h2, h3, h4, h5, _, rfl, h8⟩ : JM 12 K C W)
theorem j_12 (h : JJ (12, K, a, C, W)) : JJ (ps1 k b 12 K a C W) := by
  show JJ (if hdv K = 11 then _ else _)
  obtain ⟨D, ts, h1, h2, h3, h4, h5, r, rfl, h8⟩ : JM 12 K C W := h
  have h5 : hdv K = 22 ∨ hdv K = 11 ∨ hdv K = 12 := h5
  obtain ⟨x, R, rfl, hx⟩ := hd_c (K := K) (by omega)
  rw [hx] at h5 ⊢
  have h3' := h3.2
  split
  · rename_i e
    subst e
    have hC : hdv R = 22 ∨ hdv R = 12 := by
      rcases h3' with q | q | q | q | q | q | q <;> first | exact q.2 | (exfalso; omega)
    obtain ⟨r2, rfl, h10⟩ := (sh_10 (by decide)).mp h8
    exact (⟨D ++ [-18], _, by have := JP_s (x := -18) h1; rw [bot_c (by decide) (by decide)] at this; exact this, (tyl_s h2).trans (t17 (by decide)), h3.1, by have := h4; rw [opn, if_neg (by decide)] at this; show opn R ≤ 8; omega, by show hdv R = 22 ∨ hdv R = 11 ∨ hdv R = 12; omega, _, rfl, h10⟩ : JM 12 R (C ++ [-18]) W)
  · exact (⟨D, _, h1, h2, h3, h4, by show x = 22 ∨ x = 12; omega, _, rfl, h8⟩ : JM 13 (x :: R) C W)
theorem j_13 (h : JJ (13, K, a, C, W)) : JJ (ps1 k b 13 K a C W) := by
  show JJ (if k = 5 then _ else _)
  obtain ⟨D, ts, h1, h2, h3, h4, h5, r, rfl, h8⟩ : JM 13 K C W := h
  have h5 : hdv K = 22 ∨ hdv K = 12 := h5
  split
  · exact (⟨D, _, by rw [bot_c (by decide) (by decide)]; exact h1, h2, ⟨h3, Or.inr (Or.inr (Or.inr (Or.inr (Or.inr (Or.inr ⟨rfl, h5⟩)))))⟩, by rw [opn, if_neg (by decide)]; omega, Or.inr (show (9 : Int) ≤ 11 ∧ (11 : Int) ≤ 12 from by decide), (sh_10 (by decide)).mpr ⟨_, rfl, h8⟩⟩ : JM 8 (11 :: K) C W)
  · exact (⟨D, _, h1, h2, h3, h4, h5, _, rfl, h8⟩ : JM 14 K C W)
theorem j_14 (h : JJ (14, K, a, C, W)) : JJ (ps1 k b 14 K a C W) := by
  show JJ (if hdv K = 22 then _ else if k = 41 then _ else _)
  obtain ⟨D, ts, h1, h2, h3, h4, h5, r, rfl, h8⟩ : JM 14 K C W := h
  have h5 : hdv K = 22 ∨ hdv K = 12 := h5
  obtain ⟨x, R, rfl, hx⟩ := hd_c (K := K) (by omega)
  rw [hx] at h5 ⊢
  have h3' := h3.2
  split
  · rename_i e
    subst e
    have hR : R = [] := by
      rcases h3' with q | q | q | q | q | q | q <;> first | exact q.2 | (exfalso; omega)
    subst hR
    have hr : r = [] := (sh_n (by decide)).mp h8
    subst hr
    exact ⟨D, h1, Or.inr h2⟩
  · have e : x = 12 := by omega
    subst e
    have hC : isC (hdv R) := by
      rcases h3' with q | q | q | q | q | q | q <;> first | exact q.2 | (exfalso; omega)
    split
    · exact (⟨D, _, by have := h1; rw [bot_c (by decide) (by decide)] at this; exact this, h2, h3.1, by have := h4; rw [opn, if_pos (by decide)] at this; show opn R ≤ 8; omega, hC, _, rfl, (sh_n (by decide)).mp h8⟩ : JM 9 R C W)
    · trivial
theorem j_16 (h : JJ (16, K, a, C, W)) : JJ (ps1 k b 16 K a C W) := by
  show JJ (if k = 59 then _ else _)
  obtain ⟨D, h1, h2⟩ : ∃ D, JP true C W D ∧ (D = [] ∨ tyl D [] = some [3]) := h
  split
  · exact JP_line h1 h2
  · trivial
end JS
theorem JJ_s {k b : Int} (hk : k ≤ 10999) : ∀ {s : PM}, JJ s → JJ (ps1 k b s.1 s.2.1 s.2.2.1 s.2.2.2.1 s.2.2.2.2)
  | (0, _, _, _, _), h => j_0 h
  | (1, _, _, _, _), h => j_1 hk h
  | (2, _, _, _, _), h => j_2 h
  | (3, _, _, _, _), h => j_3 hk h
  | (4, _, _, _, _), h => j_4 h
  | (5, _, _, _, _), h => j_5 h
  | (6, _, _, _, _), h => j_6 h
  | (7, _, _, _, _), h => j_7 h
  | (8, _, _, _, _), h => j_8 h
  | (9, _, _, _, _), h => j_9 h
  | (10, _, _, _, _), h => j_10 h
  | (11, _, _, _, _), h => j_11 h
  | (12, _, _, _, _), h => j_12 h
  | (13, _, _, _, _), h => j_13 h
  | (14, _, _, _, _), h => j_14 h
  | (15, _, _, _, _), h => h.elim
  | (16, _, _, _, _), h => j_16 h
  | (n + 17, K, a, C, W), h => h
theorem JJ_r {kd nx : Int → Int} (hk : ∀ a, kd a ≤ 10999) : ∀ (j : Nat) (s : PM), JJ s → JJ (itr kd nx j s)
  | 0, _, h => h
  | j + 1, s, h => by rw [itr]; exact JJ_r hk j _ (JJ_s (hk _) h)
/-- what is read to its end is made of lines that are well made -/
theorem JJ_end {kd nx : Int → Int} {a0 a : Int} {C W : List Int} (hk : ∀ a, kd a ≤ 10999) (h : Rch kd nx (0, [], a0, [], []) (99, [], a, C, W)) : ∃ L : Lw, lwok L ∧ C = flt1 L ∧ W = pos1 0 L := by
  obtain ⟨j, e⟩ := h
  have h0 : JJ (0, [], a0, [], []) := ⟨[], [], fun q hq => (by cases hq), rfl, fun _ => ⟨rfl, rfl⟩, fun e => (by cases e)⟩
  have h1 := JJ_r (nx := nx) hk j _ h0
  rw [e] at h1
  obtain ⟨L, E, q1, q2, q3, -⟩ : JP false C W [] := h1
  obtain ⟨rfl, q4⟩ := q3 rfl
  exact ⟨L, q1, by rw [q2]; simp, q4⟩
