/-! ===== the small machine's cells in the heap: ad: the address of a cell, sad: of a text; C: the class of an array by its type ===== -/
def x_val (ad sad : Nat → Nat) : Value → Value
  | .ref i => .ref (ad i)
  | .retAddr j => .ref (sad j)
  | v => v
def x_fv (ad : Nat → Nat) (f : Nat → Int32) (k : Nat) : Option Nat → Value
  | none => .int (f k)
  | some 0 => .null
  | some (d + 1) => .ref (ad d)
def x_vp (ty : FieldType) (n : Nat) (f : Nat → Int32) (g : Nat → Int64) : vp_A := (n, if ty = .long then .inr (.inl g) else .inl f)
def x_ent (ad : Nat → Nat) (C : FieldType → ClassId) (f : Nat → Int32) (g : Nat → Int64) : x_S → va_E
  | .inl q => .inl (C q.1, x_vp q.1 q.2 f g)
  | .inr o => .inr (o.1, o.2.mapIdx (fun k r => x_fv ad f k r))
def x_W (ad : Nat → Nat) (C : FieldType → ClassId) (T : x_T) : va_W := T.1.mapIdx (fun c sh => (ad c, x_ent ad C (T.2.1 c) (T.2.2 c) sh))
def x_ls (ad sad : Nat → Nat) (ls : Array Slot) (nL : Nat) (lv : x_L) : Prop := ∃ l : List (Nat × Value), lv_has ls nL l ∧ lv.length = nL ∧ ∀ (j : Nat) (v : Value), lv[j]? = some (some v) → (j, x_val ad sad v) ∈ l
theorem x_W_len (ad : Nat → Nat) (C : FieldType → ClassId) (T : x_T) : (x_W ad C T).length = T.1.length := by simp [x_W]
theorem x_W_get {ad : Nat → Nat} {C : FieldType → ClassId} {T : x_T} {a : Nat} {sh : x_S} (h : T.1[a]? = some sh) : (x_W ad C T)[a]? = some (ad a, x_ent ad C (T.2.1 a) (T.2.2 a) sh) := by
  simp [x_W, List.getElem?_mapIdx, h]
theorem x_W_of {ad : Nat → Nat} {C : FieldType → ClassId} {T : x_T} {a : Nat} {q : Nat × va_E} (h : (x_W ad C T)[a]? = some q) : ∃ sh, T.1[a]? = some sh ∧ q = (ad a, x_ent ad C (T.2.1 a) (T.2.2 a) sh) := by
  simp only [x_W, List.getElem?_mapIdx] at h
  cases hs : T.1[a]? with
  | none => simp [hs] at h
  | some sh => simp [hs] at h; exact ⟨sh, rfl, h.symm⟩
/-- one cell is another: the world with that cell set -/
theorem x_W_set {ad : Nat → Nat} {C : FieldType → ClassId} {T U : x_T} {a : Nat} {sh sh' : x_S} (h : T.1[a]? = some sh) (hl : U.1 = T.1.set a sh') (hf : ∀ b, b ≠ a → U.2.1 b = T.2.1 b) (hg : ∀ b, b ≠ a → U.2.2 b = T.2.2 b) : (x_W ad C T).set a (ad a, x_ent ad C (U.2.1 a) (U.2.2 a) sh') = x_W ad C U := by
  have ha : a < T.1.length := (List.getElem?_eq_some_iff.mp h).1
  apply List.ext_getElem?
  intro j
  by_cases hj : j = a
  · subst hj
    rw [List.getElem?_set_self (by rw [x_W_len]; exact ha), x_W_get (sh := sh') (by rw [hl, List.getElem?_set_self ha])]
  · rw [List.getElem?_set_ne (Ne.symm hj)]
    simp only [x_W, List.getElem?_mapIdx, hl, List.getElem?_set_ne (Ne.symm hj), hf j hj, hg j hj]
theorem x_set_self {α : Type} {l : List α} {a : Nat} {x : α} (h : l[a]? = some x) : l = l.set a x := by
  apply List.ext_getElem?
  intro j
  by_cases hj : j = a
  · subst hj
    rw [List.getElem?_set_self (List.getElem?_eq_some_iff.mp h).1, h]
  · rw [List.getElem?_set_ne (Ne.symm hj)]
theorem x_up_s {α : Type} (f : Nat → α) (k : Nat) (v : α) : va_up f k v k = v := if_pos rfl
theorem x_up_n {α : Type} (f : Nat → α) {k j : Nat} (v : α) (h : j ≠ k) : va_up f k v j = f j := if_neg h
/-- an int of an array -/
theorem x_W_ia {ad : Nat → Nat} {C : FieldType → ClassId} {T : x_T} {a n k : Nat} {ty : FieldType} {v : Int32} (h : T.1[a]? = some (.inl (ty, n))) (hty : ty ≠ .long) : (x_W ad C T).set a (ad a, .inl (C ty, n, .inl (upd (T.2.1 a) k v))) = x_W ad C (x_si T a k v) := by
  have h1 := x_W_set (ad := ad) (C := C) (U := x_si T a k v) (sh' := .inl (ty, n)) h (x_set_self h) (fun b hb => x_up_n _ _ hb) (fun b hb => rfl)
  rw [← h1]
  simp [x_ent, x_vp, hty, x_si, x_up_s]
theorem x_W_fa {ad : Nat → Nat} {C : FieldType → ClassId} {T : x_T} {a n : Nat} {ty : FieldType} {f : Nat → Int32} (h : T.1[a]? = some (.inl (ty, n))) (hty : ty ≠ .long) : (x_W ad C T).set a (ad a, .inl (C ty, n, .inl f)) = x_W ad C (x_sf T a f) := by
  have h1 := x_W_set (ad := ad) (C := C) (U := x_sf T a f) (sh' := .inl (ty, n)) h (x_set_self h) (fun b hb => x_up_n _ _ hb) (fun b hb => rfl)
  rw [← h1]
  simp [x_ent, x_vp, hty, x_sf, x_up_s]
theorem x_W_la {ad : Nat → Nat} {C : FieldType → ClassId} {T : x_T} {a n k : Nat} {v : Int64} (h : T.1[a]? = some (.inl (.long, n))) : (x_W ad C T).set a (ad a, .inl (C .long, n, .inr (.inl (vp_updL (T.2.2 a) k v)))) = x_W ad C (x_sl T a k v) := by
  have h1 := x_W_set (ad := ad) (C := C) (U := x_sl T a k v) (sh' := .inl (.long, n)) h (x_set_self h) (fun b hb => rfl) (fun b hb => x_up_n _ _ hb)
  rw [← h1]
  simp [x_ent, x_vp, x_sl, x_up_s]
/-- an int field -/
theorem x_W_if {ad : Nat → Nat} {C : FieldType → ClassId} {T : x_T} {a k ci : Nat} {fs : List (Option Nat)} {v : Int32} (h : T.1[a]? = some (.inr (ci, fs))) (hk : fs[k]? = some none) : (x_W ad C T).set a (ad a, .inr (ci, (fs.mapIdx (fun k r => x_fv ad (T.2.1 a) k r)).set k (.int v))) = x_W ad C (x_si T a k v) := by
  have h1 := x_W_set (ad := ad) (C := C) (U := x_si T a k v) (sh' := .inr (ci, fs)) h (x_set_self h) (fun b hb => x_up_n _ _ hb) (fun b hb => rfl)
  rw [← h1]
  congr 1
  simp only [x_ent, x_si, x_up_s, Prod.mk.injEq, true_and, Sum.inr.injEq]
  have hlt : k < fs.length := (List.getElem?_eq_some_iff.mp hk).1
  apply List.ext_getElem?
  intro j
  by_cases hj : j = k
  · subst hj
    rw [List.getElem?_set_self (by simpa using hlt), List.getElem?_mapIdx, hk]
    simp [x_fv, upd]
  · rw [List.getElem?_set_ne (Ne.symm hj), List.getElem?_mapIdx, List.getElem?_mapIdx]
    cases fs[j]? with
    | none => rfl
    | some r => cases r with
      | none => simp [x_fv, upd, hj]
      | some d => cases d <;> simp [x_fv]
/-- a reference field -/
theorem x_W_rf {ad : Nat → Nat} {C : FieldType → ClassId} {T : x_T} {a k ci d : Nat} {fs : List (Option Nat)} (h : T.1[a]? = some (.inr (ci, fs))) (hk : k < fs.length) : (x_W ad C T).set a (ad a, .inr (ci, (fs.mapIdx (fun k r => x_fv ad (T.2.1 a) k r)).set k (.ref (ad d)))) = x_W ad C (x_sr T a ci k fs d) := by
  have h1 := x_W_set (ad := ad) (C := C) (U := x_sr T a ci k fs d) (sh' := .inr (ci, fs.set k (some (d + 1)))) h rfl (fun b hb => rfl) (fun b hb => rfl)
  rw [← h1]
  congr 1
  simp only [x_ent, x_sr, Prod.mk.injEq, true_and, Sum.inr.injEq]
  apply List.ext_getElem?
  intro j
  by_cases hj : j = k
  · subst hj
    rw [List.getElem?_set_self (by simpa using hk), List.getElem?_mapIdx, List.getElem?_set_self hk]
    simp [x_fv]
  · rw [List.getElem?_set_ne (Ne.symm hj), List.getElem?_mapIdx, List.getElem?_mapIdx, List.getElem?_set_ne (Ne.symm hj)]
/-- a new cell -/
theorem x_W_new {ad : Nat → Nat} {C : FieldType → ClassId} {T : x_T} {sh : x_S} {q : Nat} (hok : x_okT T.1.length T.1 = true) : x_W (va_up ad T.1.length q) C (x_new T sh) = x_W ad C T ++ [(q, x_ent (va_up ad T.1.length q) C (fun _ => 0) (fun _ => 0) sh)] := by
  apply List.ext_getElem?
  intro j
  rcases Nat.lt_trichotomy j T.1.length with hj | hj | hj
  · rw [List.getElem?_append_left (by rw [x_W_len]; exact hj)]
    obtain ⟨s0, hs0⟩ : ∃ s0, T.1[j]? = some s0 := ⟨T.1[j], List.getElem?_eq_getElem hj⟩
    rw [x_W_get hs0, x_W_get (sh := s0) (by show (T.1 ++ [sh])[j]? = _; rw [List.getElem?_append_left hj]; exact hs0)]
    have hne : j ≠ T.1.length := by omega
    simp only [x_new, x_up_n _ _ hne]
    have hall := List.all_eq_true.mp hok s0 (List.mem_of_getElem? hs0)
    cases s0 with
    | inl r => rfl
    | inr o =>
      simp only at hall
      have he : o.2.mapIdx (fun k r => x_fv (va_up ad T.1.length q) (T.2.1 j) k r) = o.2.mapIdx (fun k r => x_fv ad (T.2.1 j) k r) := by
        apply List.ext_getElem?
        intro i
        rw [List.getElem?_mapIdx, List.getElem?_mapIdx]
        cases hi : o.2[i]? with
        | none => rfl
        | some r =>
          have hr := List.all_eq_true.mp hall r (List.mem_of_getElem? hi)
          cases r with
          | none => rfl
          | some d => cases d with
            | zero => rfl
            | succ d =>
              have hd : d < T.1.length := by simpa using hr
              simp [x_fv, x_up_n ad q (show d ≠ T.1.length by omega)]
      simp [x_ent, he]
  · subst hj
    rw [List.getElem?_append_right (by rw [x_W_len]; exact Nat.le_refl _), x_W_len, Nat.sub_self]
    rw [x_W_get (sh := sh) (by show (T.1 ++ [sh])[T.1.length]? = _; rw [List.getElem?_append_right (Nat.le_refl _), Nat.sub_self]; rfl)]
    simp [x_new, x_up_s]
  · rw [List.getElem?_eq_none (by rw [x_W_len]; simp [x_new]; omega), List.getElem?_eq_none (by simp [x_W_len]; omega)]
/-- values keep their addresses, if a new cell comes -/
theorem x_val_up {ad sad : Nat → Nat} {n q : Nat} {v : Value} (h : x_okv n v = true) : x_val (va_up ad n q) sad v = x_val ad sad v := by
  cases v with
  | ref i =>
    have hi : i < n := by simpa [x_okv] using h
    simp [x_val, x_up_n ad q (Nat.ne_of_lt hi)]
  | _ => rfl
theorem x_val_ex {ad ad' sad : Nat → Nat} {n : Nat} (hx : ∀ i, i < n → ad' i = ad i) {v : Value} (h : x_okv n v = true) : x_val ad' sad v = x_val ad sad v := by
  cases v with
  | ref i =>
    have hi : i < n := by simpa [x_okv] using h
    simp [x_val, hx i hi]
  | _ => rfl
theorem x_st_ex {ad ad' sad : Nat → Nat} {n : Nat} (hx : ∀ i, i < n → ad' i = ad i) {st : List Value} (h : x_oks n st = true) : st.map (x_val ad' sad) = st.map (x_val ad sad) := by
  apply List.map_congr_left
  intro v hv
  exact x_val_ex hx (List.all_eq_true.mp h v hv)
theorem x_ls_ex {ad ad' sad : Nat → Nat} {n nL : Nat} {ls : Array Slot} {lv : x_L} (hx : ∀ i, i < n → ad' i = ad i) (h : x_okl n lv = true) (hl : x_ls ad sad ls nL lv) : x_ls ad' sad ls nL lv := by
  obtain ⟨l, h1, h2, h3⟩ := hl
  refine ⟨l, h1, h2, fun j v hj => ?_⟩
  have := List.all_eq_true.mp h _ (List.mem_of_getElem? hj)
  rw [x_val_ex hx this]
  exact h3 j v hj
theorem x_ls_get {ad sad : Nat → Nat} {nL j : Nat} {ls : Array Slot} {lv : x_L} {v : Value} (hl : x_ls ad sad ls nL lv) (hj : lv[j]? = some (some v)) : ls[j]? = some (.val (x_val ad sad v)) := by
  obtain ⟨l, h1, -, h3⟩ := hl
  exact h1.2.2 _ (h3 j v hj)
theorem x_in_vp {i : Int32} {n : Nat} (h : x_in i n = true) : vp_in i n := by
  simp only [x_in, Bool.and_eq_true, decide_eq_true_eq] at h
  exact vp_in_iff.mpr h
theorem x_z_app (a b : List x_S) : x_z (a ++ b) = x_z a + x_z b := by
  induction a with
  | nil => simp [x_z]
  | cons x l ih => simp [x_z, ih]; omega
theorem x_z_set {l : List x_S} {a : Nat} {x y : x_S} (h : l[a]? = some x) (he : x_z1 y = x_z1 x) : x_z (l.set a y) = x_z l := by
  induction l generalizing a with
  | nil => rfl
  | cons b l ih =>
    cases a with
    | zero => simp at h; subst h; simp [x_z, he]
    | succ a => simp at h; simp [x_z, ih h]
