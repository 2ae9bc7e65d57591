/-! ===== the text: tokens by their places ===== -/
def wkN (p : Int → Bool) (len : Int) : Nat → Int → Int
  | 0, a => a
  | m + 1, a => if a < len ∧ p a = true then wkN p len m (a + 1) else a
/-- the first place from a on where p ends -/
def wlk (p : Int → Bool) (len a : Int) : Int := wkN p len (len - a).toNat a
theorem wlk_t {p : Int → Bool} {len a : Int} (h : a < len) (hp : p a = true) : wlk p len a = wlk p len (a + 1) := by
  unfold wlk
  rw [show (len - a).toNat = (len - (a + 1)).toNat + 1 by omega, wkN, if_pos ⟨h, hp⟩]
theorem wlk_f {p : Int → Bool} {len a : Int} (h : ¬ (a < len ∧ p a = true)) : wlk p len a = a := by
  unfold wlk
  cases (len - a).toNat with
  | zero => rfl
  | succ m => rw [wkN, if_neg h]
theorem wkN_r {p : Int → Bool} {len : Int} : ∀ (m : Nat) (a : Int), a ≤ wkN p len m a ∧ (a ≤ len → wkN p len m a ≤ len)
  | 0, a => ⟨Int.le_refl a, fun h => h⟩
  | m + 1, a => by
    rw [wkN]
    split
    · rename_i h
      have := wkN_r (p := p) (len := len) m (a + 1)
      exact ⟨by omega, fun _ => this.2 (by omega)⟩
    · exact ⟨Int.le_refl a, fun h => h⟩
theorem wlk_r {p : Int → Bool} {len a : Int} (h : a ≤ len) : a ≤ wlk p len a ∧ wlk p len a ≤ len := ⟨(wkN_r _ _).1, (wkN_r _ _).2 h⟩
theorem wkN_in {p : Int → Bool} {len : Int} : ∀ (m : Nat) (a x : Int), a ≤ x → x < wkN p len m a → p x = true
  | 0, a, x => by intro h1 h2; rw [wkN] at h2; omega
  | m + 1, a, x => by
    intro h1 h2
    rw [wkN] at h2
    split at h2
    · rename_i h
      by_cases e : x = a
      · rw [e]; exact h.2
      · exact wkN_in m (a + 1) x (by omega) h2
    · omega
theorem wlk_in {p : Int → Bool} {len a x : Int} (h : a ≤ x) (h2 : x < wlk p len a) : p x = true := wkN_in _ _ _ h h2
theorem wkN_cg {p q : Int → Bool} {len : Int} (h : ∀ k, 0 ≤ k → k < len → p k = q k) : ∀ (m : Nat) (a : Int), 0 ≤ a → wkN p len m a = wkN q len m a
  | 0, _, _ => rfl
  | m + 1, a, h0 => by
    rw [wkN, wkN, wkN_cg h m (a + 1) (by omega)]
    by_cases e : a < len
    · rw [h a h0 e]
    · rw [if_neg (fun q => e q.1), if_neg (fun q => e q.1)]
theorem wlk_cg {p q : Int → Bool} {len a : Int} (h : ∀ k, 0 ≤ k → k < len → p k = q k) (h0 : 0 ≤ a) : wlk p len a = wlk q len a := wkN_cg h _ _ h0
def blk (b : Int) : Bool := decide (b = 32 ∨ b = 10)
def ltr (b : Int) : Bool := decide ((97 ≤ b ∧ b ≤ 122) ∨ (65 ≤ b ∧ b ≤ 90))
def dgt (b : Int) : Bool := decide (48 ≤ b ∧ b ≤ 57)
def mrk (b : Int) : Bool := decide (b = 59 ∨ b = 43 ∨ b = 45 ∨ b = 42 ∨ b = 47 ∨ b = 40 ∨ b = 41 ∨ b = 60 ∨ b = 61 ∨ b = 62)
theorem blk_t {b : Int} : blk b = true ↔ (b = 32 ∨ b = 10) := decide_eq_true_iff
theorem ltr_t {b : Int} : ltr b = true ↔ ((97 ≤ b ∧ b ≤ 122) ∨ (65 ≤ b ∧ b ≤ 90)) := decide_eq_true_iff
theorem dgt_t {b : Int} : dgt b = true ↔ (48 ≤ b ∧ b ≤ 57) := decide_eq_true_iff
theorem mrk_t {b : Int} : mrk b = true ↔ (b = 59 ∨ b = 43 ∨ b = 45 ∨ b = 42 ∨ b = 47 ∨ b = 40 ∨ b = 41 ∨ b = 60 ∨ b = 61 ∨ b = 62) := decide_eq_true_iff
theorem nt {b : Bool} (h : ¬ b = true) : b = false := by cases b <;> simp_all
/-- the next place that isn't blank -/
def skp (t : Int → Int) (len a : Int) : Int := wlk (fun k => blk (t k)) len a
/-- where the token at a ends -/
def ent (t : Int → Int) (len a : Int) : Int := if ltr (t a) = true then wlk (fun k => ltr (t k)) len (a + 1) else if dgt (t a) = true then wlk (fun k => dgt (t k)) len (a + 1) else a + 1
theorem ent_r {t : Int → Int} {len a : Int} (h : a < len) : a < ent t len a ∧ ent t len a ≤ len := by
  unfold ent
  split
  · have := wlk_r (p := fun k => ltr (t k)) (len := len) (a := a + 1) (by omega); omega
  · split
    · have := wlk_r (p := fun k => dgt (t k)) (len := len) (a := a + 1) (by omega); omega
    · omega
/-- the number that stands at a .. e - 1 -/
def vlN (t : Int → Int) (a : Int) : Nat → Int
  | 0 => 0
  | m + 1 => vlN t a m * 10 + t (a + (m : Int)) - 48
def vlI (t : Int → Int) (a e : Int) : Int := vlN t a (e - a).toNat
theorem vlI_0 {t : Int → Int} {a : Int} : vlI t a a = 0 := by unfold vlI; rw [show (a - a).toNat = 0 by omega]; rfl
theorem vlI_s {t : Int → Int} {a e : Int} (h : a ≤ e) : vlI t a (e + 1) = vlI t a e * 10 + t e - 48 := by
  unfold vlI
  rw [show (e + 1 - a).toNat = (e - a).toNat + 1 by omega, vlN, show a + ((e - a).toNat : Int) = e by omega]
theorem vlI_r {t : Int → Int} {a e : Int} (h : a ≤ e) (h4 : e - a ≤ 4) (hd : ∀ x, a ≤ x → x < e → dgt (t x) = true) : 0 ≤ vlI t a e ∧ vlI t a e ≤ 9999 ∧ (e - a ≤ 3 → vlI t a e ≤ 999) := by
  have h5 : e = a ∨ e = a + 1 ∨ e = a + 1 + 1 ∨ e = a + 1 + 1 + 1 ∨ e = a + 1 + 1 + 1 + 1 := by omega
  have q := fun x h1 h2 => dgt_t.mp (hd x h1 h2)
  rcases h5 with e0 | e0 | e0 | e0 | e0
  · rw [e0, vlI_0]; omega
  · have q0 := q a (by omega) (by omega)
    rw [e0, vlI_s (by omega), vlI_0]; omega
  · have q0 := q a (by omega) (by omega)
    have q1 := q (a + 1) (by omega) (by omega)
    rw [e0, vlI_s (by omega), vlI_s (by omega), vlI_0]; omega
  · have q0 := q a (by omega) (by omega)
    have q1 := q (a + 1) (by omega) (by omega)
    have q2 := q (a + 1 + 1) (by omega) (by omega)
    rw [e0, vlI_s (by omega), vlI_s (by omega), vlI_s (by omega), vlI_0]; omega
  · have q0 := q a (by omega) (by omega)
    have q1 := q (a + 1) (by omega) (by omega)
    have q2 := q (a + 1 + 1) (by omega) (by omega)
    have q3 := q (a + 1 + 1 + 1) (by omega) (by omega)
    rw [e0, vlI_s (by omega), vlI_s (by omega), vlI_s (by omega), vlI_s (by omega), vlI_0]; omega
theorem vlN_cg {t t' : Int → Int} {a : Int} : ∀ m : Nat, (∀ k, a ≤ k → k < a + m → t k = t' k) → vlN t a m = vlN t' a m
  | 0, _ => rfl
  | m + 1, h => by rw [vlN, vlN, vlN_cg m (fun k h0 h1 => h k h0 (by omega)), h (a + m) (by omega) (by omega)]
/-- the keywords, five signs each -/
def kwL : List Int := [112,97,121,32,32, 119,104,101,110,32, 111,114,32,32,32, 97,110,100,32,32, 110,111,116,32,32, 115,105,103,110,32, 112,108,97,99,101, 108,111,110,103,32, 117,115,101,100,32, 118,111,119,101,108, 111,119,110,101,114, 100,97,121,32,32, 108,101,102,116,32, 102,105,114,115,116]
def kwd (k : Int) : Int := kwL.getD k.toNat 0
/-- the sign at place i of a word a .. e - 1, with blanks behind it -/
def wch (t : Int → Int) (a e i : Int) : Int := if a + i < e then t (a + i) else 32
def kwb (t : Int → Int) (a e k : Int) : Bool := decide (e - a ≤ 5 ∧ ∀ i ∈ [(0 : Int), 1, 2, 3, 4], kwd (k * 5 + i) = wch t a e i)
theorem kwb_t {t : Int → Int} {a e k : Int} : kwb t a e k = true ↔ (e - a ≤ 5 ∧ ∀ i, 0 ≤ i → i < 5 → kwd (k * 5 + i) = wch t a e i) := by
  unfold kwb
  rw [decide_eq_true_iff]
  constructor
  · rintro ⟨h, q⟩
    refine ⟨h, fun i h0 h1 => q i ?_⟩
    have : i = 0 ∨ i = 1 ∨ i = 2 ∨ i = 3 ∨ i = 4 := by omega
    rcases this with e | e | e | e | e <;> subst e <;> simp
  · rintro ⟨h, q⟩
    refine ⟨h, fun i hi => q i ?_ ?_⟩ <;> simp at hi <;> omega
def kwS (t : Int → Int) (a e : Int) : Nat → Int → Int
  | 0, _ => 1
  | m + 1, k => if kwb t a e k = true then 3 + k else kwS t a e m (k + 1)
/-- which keyword: 3 and its number, or 1 -/
def kwI (t : Int → Int) (a e : Int) : Int := kwS t a e 14 0
def kwF (t : Int → Int) (a e k : Int) : Int := kwS t a e (14 - k).toNat k
theorem kwF_0 {t : Int → Int} {a e : Int} : kwF t a e 0 = kwI t a e := rfl
theorem kwF_t {t : Int → Int} {a e k : Int} (h : k < 14) (hb : kwb t a e k = true) : kwF t a e k = 3 + k := by
  unfold kwF
  rw [show (14 - k).toNat = (14 - (k + 1)).toNat + 1 by omega, kwS, if_pos hb]
theorem kwF_f {t : Int → Int} {a e k : Int} (h : k < 14) (hb : ¬ kwb t a e k = true) : kwF t a e k = kwF t a e (k + 1) := by
  unfold kwF
  rw [show (14 - k).toNat = (14 - (k + 1)).toNat + 1 by omega, kwS, if_neg hb]
theorem kwF_e {t : Int → Int} {a e k : Int} (h : 14 ≤ k) : kwF t a e k = 1 := by
  unfold kwF
  rw [show (14 - k).toNat = 0 by omega]; rfl
theorem kwS_r {t : Int → Int} {a e : Int} : ∀ (m : Nat) (k : Int), 0 ≤ k → k + m = 14 → kwS t a e m k = 1 ∨ (3 ≤ kwS t a e m k ∧ kwS t a e m k ≤ 16)
  | 0, _, _, _ => Or.inl rfl
  | m + 1, k, h0, h1 => by
    rw [kwS]
    split
    · exact Or.inr (by omega)
    · exact kwS_r m (k + 1) (by omega) (by omega)
theorem kwI_r {t : Int → Int} {a e : Int} : kwI t a e = 1 ∨ (3 ≤ kwI t a e ∧ kwI t a e ≤ 16) := kwS_r 14 0 (by decide) (by decide)
theorem kwS_far {t : Int → Int} {a e : Int} (h : ¬ e - a ≤ 5) : ∀ (m : Nat) (k : Int), kwS t a e m k = 1
  | 0, _ => rfl
  | m + 1, k => by rw [kwS, if_neg (fun q => h (kwb_t.mp q).1), kwS_far h m (k + 1)]
theorem kwI_far {t : Int → Int} {a e : Int} (h : ¬ e - a ≤ 5) : kwI t a e = 1 := kwS_far h 14 0
theorem kwb_cg {t t' : Int → Int} {a e k : Int} (h : ∀ k, a ≤ k → k < e → t k = t' k) : kwb t a e k = kwb t' a e k := by
  have q : ∀ i, 0 ≤ i → wch t a e i = wch t' a e i := by
    intro i h0
    unfold wch
    split
    · exact h _ (by omega) (by assumption)
    · rfl
  by_cases e1 : kwb t a e k = true
  · rw [e1]
    have := kwb_t.mp e1
    exact (kwb_t.mpr ⟨this.1, fun i h0 h1 => by rw [← q i h0]; exact this.2 i h0 h1⟩).symm
  · rw [nt e1]
    refine (nt (fun e2 => e1 ?_)).symm
    have := kwb_t.mp e2
    exact kwb_t.mpr ⟨this.1, fun i h0 h1 => by rw [q i h0]; exact this.2 i h0 h1⟩
theorem kwS_cg {t t' : Int → Int} {a e : Int} (h : ∀ k, a ≤ k → k < e → t k = t' k) : ∀ (m : Nat) (k : Int), kwS t a e m k = kwS t' a e m k
  | 0, _ => rfl
  | m + 1, k => by rw [kwS, kwS, kwS_cg h m (k + 1), kwb_cg h]
/-- the kind of the token at a .. e - 1 -/
def kdI (t : Int → Int) (a e : Int) : Int := if ltr (t a) = true then kwI t a e else if dgt (t a) = true then (if 4 < e - a then 1 else 1000 + vlI t a e) else if mrk (t a) = true then t a else 1
/-- the kind at a place; 0 at the end -/
def kdP (t : Int → Int) (len a : Int) : Int := if a < len then kdI t a (ent t len a) else 0
/-- behind the token at a place -/
def spP (t : Int → Int) (len a : Int) : Int := if a < len then ent t len a else a
/-- the place of the next token -/
def nxP (t : Int → Int) (len a : Int) : Int := skp t len (spP t len a)
theorem kdI_r {t : Int → Int} {len a : Int} (ha : a < len) : (kdI t a (ent t len a) = 1 ∨ (3 ≤ kdI t a (ent t len a) ∧ kdI t a (ent t len a) ≤ 16)) ∨ (1000 ≤ kdI t a (ent t len a) ∧ kdI t a (ent t len a) ≤ 10999) ∨ (mrk (kdI t a (ent t len a)) = true) := by
  unfold kdI
  by_cases h1 : ltr (t a) = true
  · rw [if_pos h1]; exact Or.inl kwI_r
  · rw [if_neg h1]
    by_cases h2 : dgt (t a) = true
    · rw [if_pos h2]
      split
      · exact Or.inl (Or.inl rfl)
      · rename_i h3
        have he := ent_r (t := t) ha
        have := vlI_r (t := t) (a := a) (e := ent t len a) (by omega) (by omega) (fun x x0 x1 => by
          by_cases e : x = a
          · rw [e]; exact h2
          · unfold ent at x1
            rw [if_neg h1, if_pos h2] at x1
            exact wlk_in (p := fun k => dgt (t k)) (len := len) (a := a + 1) (by omega) x1)
        exact Or.inr (Or.inl (by omega))
    · rw [if_neg h2]
      split
      · rename_i h3; exact Or.inr (Or.inr h3)
      · exact Or.inl (Or.inl rfl)
/-- the kinds that there are -/
theorem kdP_r {t : Int → Int} {len a : Int} : (kdP t len a = 0 ∧ len ≤ a) ∨ (a < len ∧ (kdP t len a = 1 ∨ (3 ≤ kdP t len a ∧ kdP t len a ≤ 16) ∨ (40 ≤ kdP t len a ∧ kdP t len a ≤ 62) ∨ (1000 ≤ kdP t len a ∧ kdP t len a ≤ 10999))) := by
  unfold kdP
  by_cases h : a < len
  · rw [if_pos h]
    refine Or.inr ⟨h, ?_⟩
    rcases kdI_r (t := t) h with (q | q) | q | q
    · exact Or.inl q
    · exact Or.inr (Or.inl q)
    · exact Or.inr (Or.inr (Or.inr q))
    · exact Or.inr (Or.inr (Or.inl (by have := mrk_t.mp q; omega)))
  · rw [if_neg h]; exact Or.inl ⟨rfl, by omega⟩
theorem kdP_0 {t : Int → Int} {len a : Int} (h : ¬ kdP t len a = 0) : a < len := by
  rcases kdP_r (t := t) (len := len) (a := a) with q | q
  · exact absurd q.1 h
  · exact q.1
theorem skp_r {t : Int → Int} {len a : Int} (h : a ≤ len) : a ≤ skp t len a ∧ skp t len a ≤ len := wlk_r h
theorem spP_r {t : Int → Int} {len a : Int} (h : a ≤ len) : a ≤ spP t len a ∧ spP t len a ≤ len := by
  unfold spP
  split
  · rename_i h2; have := ent_r (t := t) h2; omega
  · omega
theorem nxP_r {t : Int → Int} {len a : Int} (h : a ≤ len) : a ≤ nxP t len a ∧ nxP t len a ≤ len := by
  have h1 := spP_r (t := t) h
  have h2 := skp_r (t := t) h1.2
  unfold nxP
  omega
theorem nxP_s {t : Int → Int} {len a : Int} (h : ¬ kdP t len a = 0) : a < nxP t len a ∧ nxP t len a ≤ len := by
  have h0 := kdP_0 h
  have h1 : a < spP t len a ∧ spP t len a ≤ len := by unfold spP; rw [if_pos h0]; exact ent_r h0
  have h2 := skp_r (t := t) h1.2
  unfold nxP
  omega
/-! the same of tapes that are alike -/
theorem skp_cg {t t' : Int → Int} {len a : Int} (h : ∀ k, 0 ≤ k → k < len → t k = t' k) (h0 : 0 ≤ a) : skp t len a = skp t' len a := wlk_cg (fun k k0 k1 => by show blk (t k) = blk (t' k); rw [h k k0 k1]) h0
theorem ent_cg {t t' : Int → Int} {len a : Int} (h : ∀ k, 0 ≤ k → k < len → t k = t' k) (h0 : 0 ≤ a) (h1 : a < len) : ent t len a = ent t' len a := by
  unfold ent
  rw [h a h0 h1, wlk_cg (p := fun k => ltr (t k)) (q := fun k => ltr (t' k)) (fun k k0 k1 => by show ltr (t k) = ltr (t' k); rw [h k k0 k1]) (by omega), wlk_cg (p := fun k => dgt (t k)) (q := fun k => dgt (t' k)) (fun k k0 k1 => by show dgt (t k) = dgt (t' k); rw [h k k0 k1]) (by omega)]
theorem kdP_cg {t t' : Int → Int} {len a : Int} (h : ∀ k, 0 ≤ k → k < len → t k = t' k) (h0 : 0 ≤ a) : kdP t len a = kdP t' len a := by
  unfold kdP
  by_cases h1 : a < len
  · rw [if_pos h1, if_pos h1, ← ent_cg h h0 h1]
    have he := ent_r (t := t) h1
    have q : ∀ k, a ≤ k → k < ent t len a → t k = t' k := fun k k0 k1 => h k (by omega) (by omega)
    unfold kdI
    rw [← h a h0 h1, show kwI t a (ent t len a) = kwI t' a (ent t len a) from kwS_cg q 14 0, show vlI t a (ent t len a) = vlI t' a (ent t len a) from vlN_cg _ (fun k k0 k1 => q k k0 (by omega))]
  · rw [if_neg h1, if_neg h1]
theorem nxP_cg {t t' : Int → Int} {len a : Int} (h : ∀ k, 0 ≤ k → k < len → t k = t' k) (h0 : 0 ≤ a) (ha : a ≤ len) : nxP t len a = nxP t' len a := by
  have e : spP t len a = spP t' len a := by
    unfold spP
    by_cases h1 : a < len
    · rw [if_pos h1, if_pos h1, ent_cg h h0 h1]
    · rw [if_neg h1, if_neg h1]
  have h1 := spP_r (t := t) ha
  unfold nxP
  rw [← e, skp_cg h (by omega)]
