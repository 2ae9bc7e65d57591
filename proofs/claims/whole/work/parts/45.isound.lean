/-! ===== i_wp is sound: what it says holds of the small machine ===== -/
theorem i_g_t {b : Bool} {p : Prop} (h : i_g b p) : b = true ∧ p := by
  cases b
  · exact h.elim
  · exact ⟨rfl, h⟩
theorem ofI_toInt {z : Int} (h : inr z) : (Int32.ofInt z).toInt = z := Int32.toInt_ofInt_of_le (by omega) (by omega)
theorem ofI_clamp {z : Int} (h : inr z) : (Int32.ofInt z).toNatClampNeg = z.toNat := Int32.toNatClampNeg_ofInt_of_le (by omega) (by omega)
theorem inr_toInt (x : Int32) : inr x.toInt := by
  have h1 := Int32.le_toInt x
  have h2 := Int32.toInt_lt x
  constructor <;> omega
theorem w32_inr (z : Int) : inr (w32 z) := by unfold w32; constructor <;> omega
theorem w32_ofI (z : Int) : Int32.ofInt (w32 z) = Int32.ofInt z := by
  refine Int32.toInt_inj.mp ?_
  rw [Int32.toInt_ofInt_of_le (by have := (w32_inr z).1; omega) (by have := (w32_inr z).2; omega), Int32.toInt_ofInt]
  simp only [w32, Int.bmod, Int32.size]
  split <;> omega
theorem w32_id {z : Int} (h : inr z) : w32 z = z := by unfold w32; omega
theorem kS_len {a : Nat} {q : x_S} (h : kS[a]? = some q) : a < 106 := (List.getElem?_eq_some_iff.mp h).1
theorem kS_refs : x_okT 106 kS = true := by decide +kernel
theorem kS_ref {a k d : Nat} {o : Nat × List (Option Nat)} (h : kS[a]? = some (.inr o)) (hk : o.2[k]? = some (some (d + 1))) : d < 106 := by
  have h1 := List.all_eq_true.mp kS_refs _ (List.mem_of_getElem? h)
  have h2 := List.all_eq_true.mp h1 _ (List.mem_of_getElem? hk)
  exact Nat.blt_eq.mp h2
theorem cF_put {f : iF} {a k : Nat} {v : Int} {q : Nat × List (Option Nat)} (ha : kS[a]? = some (.inr q)) : va_up (cF f) a (upd (cF f a) k (Int32.ofInt v)) = cF (wv f (fv a k) 0 v) := by
  have hlt := kS_len ha
  funext c j
  unfold va_up
  by_cases hc : c = a
  · subst hc
    rw [if_pos rfl]
    unfold upd cF wv
    by_cases hj : j = k
    · subst hj
      simp [ha]
    · have : ¬ fv c j = fv c k := by unfold fv; omega
      simp [ha, hj, this]
  · rw [if_neg hc]
    unfold cF wv
    cases hO : kS[c]? with
    | none => rfl
    | some q' =>
      have hlc := kS_len hO
      cases q' with
      | inl p =>
        have : ¬ c = fv a k := by unfold fv; omega
        simp [this]
      | inr p =>
        have : ¬ fv c j = fv a k := by unfold fv; omega
        simp [this]
theorem cF_arr {f : iF} {a : Nat} {i v : Int} {q : FieldType × Nat} (ha : kS[a]? = some (.inl q)) (hi : 0 ≤ i) : va_up (cF f) a (upd (cF f a) i.toNat (Int32.ofInt v)) = cF (wv f a i v) := by
  have hlt := kS_len ha
  funext c j
  unfold va_up
  by_cases hc : c = a
  · subst hc
    rw [if_pos rfl]
    unfold upd cF wv
    by_cases hj : j = i.toNat
    · have : (j : Int) = i := by omega
      simp [ha, hj, show ((i.toNat : Nat) : Int) = i by omega]
    · have : ¬ (j : Int) = i := by omega
      simp [ha, hj, this]
  · rw [if_neg hc]
    unfold cF wv
    cases hO : kS[c]? with
    | none => rfl
    | some q' =>
      have hlc := kS_len hO
      cases q' with
      | inl p => simp [hc]
      | inr p =>
        have : ¬ fv c j = a := by unfold fv; omega
        simp [this]
theorem cF_acp {f : iF} {a b : Nat} {sp dp n : Int} {q q' : FieldType × Nat} (ha : kS[a]? = some (.inl q)) (hb : kS[b]? = some (.inl q')) (hs : 0 ≤ sp) (hd : 0 ≤ dp) (hn : 0 ≤ n) : va_up (cF f) b (va_cpy (cF f a) (cF f b) sp.toNat dp.toNat n.toNat) = cF (acp f a b sp dp n) := by
  have hlt := kS_len hb
  funext c j
  unfold va_up
  by_cases hc : c = b
  · subst hc
    rw [if_pos rfl]
    unfold va_cpy cF acp
    by_cases hj : dp.toNat ≤ j ∧ j < dp.toNat + n.toNat
    · have h2 : dp ≤ (j : Int) ∧ (j : Int) < dp + n := by omega
      simp only [ha, hb, hj, h2, and_self, if_true]
      rw [show ((sp.toNat + (j - dp.toNat) : Nat) : Int) = sp + ((j : Int) - dp) by omega]
    · have h2 : ¬ (dp ≤ (j : Int) ∧ (j : Int) < dp + n) := by omega
      simp only [hb, hj, h2, and_false, if_false]
  · rw [if_neg hc]
    unfold cF acp
    cases hO : kS[c]? with
    | none => rfl
    | some q' =>
      have hlc := kS_len hO
      cases q' with
      | inl p => simp [hc]
      | inr p =>
        have : ¬ fv c j = b := by unfold fv; omega
        simp [this]
theorem cG_wg {g : iG} {a : Nat} {i : Int} {v : Int64} (hi : 0 ≤ i) : va_up (cG g) a (vp_updL (cG g a) i.toNat v) = cG (wg g a i v) := by
  funext c j
  unfold va_up
  by_cases hc : c = a
  · subst hc
    rw [if_pos rfl]
    unfold vp_updL cG wg
    by_cases hj : j = i.toNat
    · simp [hj, show ((i.toNat : Nat) : Int) = i by omega]
    · have : ¬ (j : Int) = i := by omega
      simp [hj, this]
  · rw [if_neg hc]
    unfold cG wg
    simp [hc]
theorem cF_o {f : iF} {a k : Nat} {q : Nat × List (Option Nat)} (ha : kS[a]? = some (.inr q)) : cF f a k = Int32.ofInt (f (fv a k) 0) := by unfold cF; rw [ha]
theorem cF_a {f : iF} {a : Nat} {i : Int} {q : FieldType × Nat} (ha : kS[a]? = some (.inl q)) (hi : 0 ≤ i) : cF f a i.toNat = Int32.ofInt (f a i) := by
  unfold cF; rw [ha]; simp [show ((i.toNat : Nat) : Int) = i by omega]
theorem InR_wv {f : iF} {c : Nat} {k v : Int} (hf : InR f) (hv : inr v) : InR (wv f c k v) := by
  intro c' k'
  unfold wv
  split
  · exact hv
  · exact hf c' k'
theorem InR_acp {f : iF} {a b : Nat} {sp dp n : Int} (hf : InR f) : InR (acp f a b sp dp n) := by
  intro c' k'
  unfold acp
  split
  · exact hf _ _
  · exact hf c' k'
theorem i_in {i : Int} {n : Nat} (h : inr i) (h2 : 0 ≤ i ∧ i < (n : Int)) : x_in (Int32.ofInt i) n = true := by
  unfold x_in
  rw [ofI_toInt h]
  simp only [Bool.and_eq_true, decide_eq_true_eq]
  exact h2
theorem i_sm_x (st : List iv) : x_sm (st.map cV) = i_sm st := by
  induction st with
  | nil => rfl
  | cons v l ih =>
    have : x_sm (((v :: l).map cV)) = (cV v).category + x_sm (l.map cV) := by simp [x_sm]
    rw [this, ih]
    rcases v with x | x | x | x <;> rfl
theorem cL_get {lv : iL} {tl : x_L} {i : Nat} {o : Option iv} (h : lv[i]? = some o) : (cL lv ++ tl)[i]? = some (o.map cV) := by
  have hi := (List.getElem?_eq_some_iff.mp h).1
  rw [List.getElem?_append_left (by unfold cL; simpa using hi)]
  unfold cL
  rw [List.getElem?_map, h]
  rfl
theorem cL_okp {lv : iL} {tl : x_L} {i : Nat} (h : i_okp lv i = true) (hi : i ≤ lv.length) : x_okp (cL lv ++ tl) i = true := by
  cases i with
  | zero => rfl
  | succ i =>
    have h1 : lv[i]? = some lv[i] := List.getElem?_eq_getElem (by omega)
    simp only [i_okp] at h
    simp only [x_okp]
    rw [cL_get h1]
    rw [h1] at h
    generalize lv[i] = o at h
    rcases o with _ | x | x | x | x
    · rfl
    · rfl
    · rfl
    · cases h
    · rfl
theorem cL_len (lv : iL) : (cL lv).length = lv.length := by unfold cL; simp
theorem i_set_len {lv : iL} {i : Nat} {o : Option iv} : (i_set lv i o).length = if i = lv.length then lv.length + 1 else lv.length := by
  rw [i_set_eq]
  unfold i_set0
  split
  · rename_i h; have := Nat.eq_of_beq_eq_true h; simp [this]
  · rename_i h; have : ¬ i = lv.length := fun e => by rw [e, Nat.beq_refl] at h; cases h
    simp [this]
theorem cL_set {M : Nat} {lv : iL} {tl : x_L} {i : Nat} {o : Option iv} (hi : i ≤ lv.length) (hM : i < M) (hl : lv.length + tl.length = M) (ht : x_okl 106 tl = true) : ∃ tl', (cL lv ++ tl).set i (o.map cV) = cL (i_set lv i o) ++ tl' ∧ (i_set lv i o).length + tl'.length = M ∧ x_okl 106 tl' = true := by
  rcases Nat.lt_or_ge i lv.length with h | h
  · refine ⟨tl, ?_, ?_, ht⟩
    · rw [List.set_append_left _ _ (by rw [cL_len]; exact h)]
      rw [i_set_eq]
      unfold i_set0
      rw [show Nat.beq i lv.length = false from by cases hb : Nat.beq i lv.length with | false => rfl | true => have := Nat.eq_of_beq_eq_true hb; omega]
      simp [cL, List.map_set]
    · rw [i_set_len, if_neg (by omega)]; exact hl
  · have e : i = lv.length := by omega
    subst e
    cases tl with
    | nil => simp at hl; omega
    | cons x tl =>
      refine ⟨tl, ?_, ?_, ?_⟩
      · rw [List.set_append_right _ _ (by rw [cL_len]; exact Nat.le_refl _), cL_len, Nat.sub_self]
        rw [i_set_eq]
        unfold i_set0
        rw [Nat.beq_refl]
        simp [cL]
      · rw [i_set_len, if_pos rfl]; simp at hl; omega
      · simp only [x_okl, List.all_cons, Bool.and_eq_true] at ht ⊢; exact ht.2
theorem okL_set {lv : iL} {i : Nat} {o : Option iv} (h : okL lv) (ho : ∀ v, o = some v → okv v) : okL (i_set lv i o) := by
  intro v hv
  rw [i_set_eq] at hv
  unfold i_set0 at hv
  split at hv
  · rcases List.mem_append.mp hv with hv | hv
    · exact h v hv
    · exact ho v (by simp only [List.mem_cons, List.not_mem_nil, or_false] at hv; exact hv.symm)
  · rcases List.mem_or_eq_of_mem_set hv with hv | hv
    · exact h v hv
    · exact ho v hv.symm
theorem okL_lset {lv : iL} {i : Nat} {o : Option iv} (h : okL lv) (ho : ∀ v, o = some v → okv v) : okL (lv.set i o) := by
  intro v hv
  rcases List.mem_or_eq_of_mem_set hv with hv | hv
  · exact h v hv
  · exact ho v hv.symm
theorem okS_c {v : iv} {st : List iv} (hv : okv v) (h : okS st) : okS (v :: st) := by
  intro w hw
  rcases List.mem_cons.mp hw with rfl | hw
  · exact hv
  · exact h w hw
theorem okS_t {v : iv} {st : List iv} (h : okS (v :: st)) : okS st := fun w hw => h w (List.mem_cons_of_mem _ hw)
theorem okS_h {v : iv} {st : List iv} (h : okS (v :: st)) : okv v := h v (List.mem_cons_self ..)
theorem okl_all {lv : iL} {tl : x_L} (h : okL lv) (ht : x_okl 106 tl = true) : x_okl 106 (cL lv ++ tl) = true := by
  unfold x_okl at ht ⊢
  rw [List.all_append, Bool.and_eq_true]
  refine ⟨List.all_eq_true.mpr (fun o ho => ?_), ht⟩
  unfold cL at ho
  obtain ⟨w, hw, rfl⟩ := List.mem_map.mp ho
  cases w with
  | none => rfl
  | some v =>
    have := h v hw
    rcases v with x | x | x | x
    · rfl
    · exact Nat.blt_eq.mpr this
    · rfl
    · rfl
theorem oks_all {st : List iv} (h : okS st) : x_oks 106 (st.map cV) = true := by
  unfold x_oks
  refine List.all_eq_true.mpr (fun o ho => ?_)
  obtain ⟨v, hv, rfl⟩ := List.mem_map.mp ho
  have := h v hv
  rcases v with x | x | x | x
  · rfl
  · exact Nat.blt_eq.mpr this
  · rfl
  · rfl
theorem i_sm32_inr {v : Int} (h : i_sm32 v = true) : inr v := by
  cases v with
  | ofNat n => have := Nat.le_of_ble_eq_true h; constructor <;> simp <;> omega
  | negSucc n => have := Nat.le_of_ble_eq_true h; constructor <;> omega
theorem i_max (x y : Int) (hx : inr x) (hy : inr y) : (if Int32.ofInt x < Int32.ofInt y then Int32.ofInt y else Int32.ofInt x) = Int32.ofInt (max x y) := by
  simp only [Int32.lt_iff_toInt_lt, ofI_toInt hx, ofI_toInt hy]
  split
  · rw [show max x y = y by omega]
  · rw [show max x y = x by omega]
theorem i_min (x y : Int) (hx : inr x) (hy : inr y) : (if Int32.ofInt y < Int32.ofInt x then Int32.ofInt y else Int32.ofInt x) = Int32.ofInt (min x y) := by
  simp only [Int32.lt_iff_toInt_lt, ofI_toInt hx, ofI_toInt hy]
  split
  · rw [show min x y = y by omega]
  · rw [show min x y = x by omega]
theorem ofI_ne0 {y : Int} (hy : inr y) (h : ¬ y = 0) : ¬ Int32.ofInt y = 0 := fun e => h (by have := congrArg Int32.toInt e; rw [ofI_toInt hy] at this; simpa using this)
theorem i_tdiv (x y : Int) (hx : inr x) (hy : inr y) : Int32.ofInt x / Int32.ofInt y = Int32.ofInt (x.tdiv y) := (Int32.ofInt_tdiv (by rw [Int32.toInt_minValue]; omega) (by rw [Int32.toInt_maxValue]; omega) (by rw [Int32.toInt_minValue]; omega) (by rw [Int32.toInt_maxValue]; omega)).symm
theorem i_tmod (x y : Int) (hx : inr x) (hy : inr y) : Int32.ofInt x - Int32.ofInt x / Int32.ofInt y * Int32.ofInt y = Int32.ofInt (x.tmod y) := by
  rw [i_tdiv x y hx hy, ← Int32.ofInt_mul, ← Int32.ofInt_sub, Int.tmod_def, Int.mul_comm (x.tdiv y) y]
/-- how a script is given -/
def i_XT (XT : x_Xt) : Prop := ∀ t q, XT t = some q → q.1 ≤ 2147483647
theorem cG_a {g : iG} {a : Nat} {i : Int} (hi : 0 ≤ i) : cG g a i.toNat = g a i := by
  unfold cG; simp [show ((i.toNat : Nat) : Int) = i by omega]
theorem i_nar {x : Int} (h : x = 0 ∨ x = 1) : vp_nar .boolean (Int32.ofInt x) = Int32.ofInt x := by
  rcases h with rfl | rfl <;> rfl
theorem i_01 {x : Int} (h : x = 0 ∨ x = 1) : decide (Int32.ofInt x = 0 ∨ Int32.ofInt x = 1) = true := by
  rcases h with rfl | rfl <;> decide
theorem i_nn {x : Int} (h : inr x) (h0 : 0 ≤ x) : ¬ Int32.ofInt x < 0 := by
  rw [Int32.lt_iff_toInt_lt, ofI_toInt h]
  simp only [Int32.toInt_zero]
  omega
section I1
variable {M : Nat} {XT : x_Xt} {lv : iL} {st : List iv} {f : iF} {g : iG} {K : iL → List iv → iF → iG → Prop} {K' : x_L → List Value → x_T → x_Z} {P : x_Z → Prop} {tl : x_L}
set_option maxHeartbeats 4000000 in
theorem i_s1_ok (i : Instr) (hl : okL lv) (hs : okS st) (hf : InR f) (ht : lv.length + tl.length = M) (htl : x_okl 106 tl = true) (h : i_s1 M XT i lv st f g K) (hK : ∀ lv st f g tl, K lv st f g → okL lv → okS st → InR f → lv.length + tl.length = M → x_okl 106 tl = true → P (K' (cL lv ++ tl) (st.map cV) (cT f g))) : P (x_s1 XT i (cL lv ++ tl) (st.map cV) (cT f g) K') := by
  cases i with
  | iconst v =>
    obtain ⟨h1, h⟩ := i_g_t h
    exact hK _ _ _ _ _ h hl (okS_c (i_sm32_inr h1) hs) hf ht htl
  | jsr v =>
    exact hK _ _ _ _ _ h hl (okS_c trivial hs) hf ht htl
  | ldc v =>
    exact hK _ _ _ _ _ h hl (okS_c trivial hs) hf ht htl
  | iload i =>
    simp only [i_s1] at h
    split at h
    · rename_i x hx
      have h1 := hK _ _ _ _ _ h hl (okS_c (hl _ (List.mem_of_getElem? hx)) hs) hf ht htl
      simp only [x_s1, cL_get hx, Option.map, cV]
      exact h1
    · exact h.elim
  | lload i =>
    simp only [i_s1] at h
    split at h
    · rename_i x hx
      have h1 := hK _ _ _ _ _ h hl (okS_c (hl _ (List.mem_of_getElem? hx)) hs) hf ht htl
      simp only [x_s1, cL_get hx, Option.map, cV]
      exact h1
    · exact h.elim
  | aload i =>
    simp only [i_s1] at h
    split at h
    · rename_i x hx
      have h1 := hK _ _ _ _ _ h hl (okS_c (hl _ (List.mem_of_getElem? hx)) hs) hf ht htl
      simp only [x_s1, cL_get hx, Option.map, cV]
      exact h1
    · rename_i x hx
      have h1 := hK _ _ _ _ _ h hl (okS_c (hl _ (List.mem_of_getElem? hx)) hs) hf ht htl
      simp only [x_s1, cL_get hx, Option.map, cV]
      exact h1
    · exact h.elim
  | istore i =>
    simp only [i_s1] at h
    split at h
    · rename_i x st
      obtain ⟨h1, h⟩ := i_g_t h
      simp only [Bool.and_eq_true] at h1
      obtain ⟨h1, h2, h3⟩ := h1
      have h2 := Nat.le_of_ble_eq_true h2
      have h3 : i < M := Nat.blt_eq.mp h3
      obtain ⟨tl', e, e2, e3⟩ := cL_set (o := some (.inl x)) h2 h3 ht htl
      have h4 := hK _ _ _ _ _ h (okL_set hl (fun v hv => by cases hv; exact okS_h hs)) (okS_t hs) hf e2 e3
      simp only [x_s1, List.map, cV, cL_okp h1 h2, Bool.true_and, List.length_append, cL_len, ht, Nat.blt_eq.mpr h3, x_g]
      rw [← e] at h4
      exact h4
    · exact h.elim
  | astore i =>
    simp only [i_s1] at h
    split at h
    · rename_i x st
      obtain ⟨h1, h⟩ := i_g_t h
      simp only [Bool.and_eq_true] at h1
      obtain ⟨h1, h2, h3⟩ := h1
      have h2 := Nat.le_of_ble_eq_true h2
      have h3 : i < M := Nat.blt_eq.mp h3
      obtain ⟨tl', e, e2, e3⟩ := cL_set (o := some (.inr (.inl x))) h2 h3 ht htl
      have h4 := hK _ _ _ _ _ h (okL_set hl (fun v hv => by cases hv; exact okS_h hs)) (okS_t hs) hf e2 e3
      simp only [x_s1, List.map, cV, cL_okp h1 h2, Bool.true_and, List.length_append, cL_len, ht, Nat.blt_eq.mpr h3, x_g]
      rw [← e] at h4
      exact h4
    · exact h.elim
  | lstore i =>
    simp only [i_s1] at h
    split at h
    · rename_i x st
      obtain ⟨h1, h⟩ := i_g_t h
      simp only [Bool.and_eq_true] at h1
      obtain ⟨h1, h2, h3⟩ := h1
      have h2 := Nat.le_of_ble_eq_true h2
      have h3 : i + 1 < M := Nat.blt_eq.mp h3
      obtain ⟨tl', e, e2, e3⟩ := cL_set (o := some (.inr (.inr (.inl x)))) h2 (by omega) ht htl
      obtain ⟨tl2, e4, e5, e6⟩ := cL_set (i := i + 1) (o := none) (by rw [i_set_len]; split <;> omega) h3 e2 e3
      have h4 := hK _ _ _ _ _ h (okL_set (okL_set hl (fun v hv => by cases hv; trivial)) (fun v hv => by cases hv)) (okS_t hs) hf e5 e6
      simp only [x_s1, List.map, cV, cL_okp h1 h2, Bool.true_and, List.length_append, cL_len, ht, Nat.blt_eq.mpr h3, x_g]
      rw [← e4, ← e] at h4
      exact h4
    · exact h.elim
  | iinc i n =>
    simp only [i_s1] at h
    split at h
    · rename_i x hx
      obtain ⟨h1, h2, h⟩ := i_g_t h
      have hi := (List.getElem?_eq_some_iff.mp hx).1
      have h4 := hK _ _ _ _ tl h (okL_lset (o := some (.inl (x + n))) hl (fun v hv => by cases hv; exact h2)) hs hf (by rw [List.length_set]; exact ht) htl
      simp only [x_s1, cL_get hx, Option.map, cV, cL_okp h1 (Nat.le_of_lt hi), x_g]
      rw [List.set_append_left _ _ (by rw [cL_len]; exact hi)]
      have e : cL (lv.set i (some (.inl (x + n)))) = (cL lv).set i (some (.int (Int32.ofInt x + Int32.ofInt n))) := by
        rw [← Int32.ofInt_add]; simp [cL, List.map_set, cV]
      rw [e] at h4
      exact h4
    · exact h.elim
  | iadd =>
    simp only [i_s1] at h
    split at h
    · rename_i y x st
      rcases h with ⟨h1, h⟩ | h
      · have h4 := hK _ _ _ _ _ h hl (okS_c h1 (okS_t (okS_t hs))) hf ht htl
        simp only [List.map, cV, Int32.ofInt_add] at h4
        exact h4
      · have h4 := hK _ _ _ _ _ h hl (okS_c (w32_inr _) (okS_t (okS_t hs))) hf ht htl
        simp only [List.map, cV, w32_ofI, Int32.ofInt_add] at h4
        exact h4
    · exact h.elim
  | isub =>
    simp only [i_s1] at h
    split at h
    · rename_i y x st
      rcases h with ⟨h1, h⟩ | h
      · have h4 := hK _ _ _ _ _ h hl (okS_c h1 (okS_t (okS_t hs))) hf ht htl
        simp only [List.map, cV, Int32.ofInt_sub] at h4
        exact h4
      · have h4 := hK _ _ _ _ _ h hl (okS_c (w32_inr _) (okS_t (okS_t hs))) hf ht htl
        simp only [List.map, cV, w32_ofI, Int32.ofInt_sub] at h4
        exact h4
    · exact h.elim
  | imul =>
    simp only [i_s1] at h
    split at h
    · rename_i y x st
      rcases h with ⟨h1, h⟩ | h
      · have h4 := hK _ _ _ _ _ h hl (okS_c h1 (okS_t (okS_t hs))) hf ht htl
        simp only [List.map, cV, Int32.ofInt_mul] at h4
        exact h4
      · have h4 := hK _ _ _ _ _ h hl (okS_c (w32_inr _) (okS_t (okS_t hs))) hf ht htl
        simp only [List.map, cV, w32_ofI, Int32.ofInt_mul] at h4
        exact h4
    · exact h.elim
  | idiv =>
    simp only [i_s1] at h
    split at h
    · rename_i y x st
      obtain ⟨h0, h1, h⟩ := h
      have hy : inr y := okS_h hs
      have hx : inr x := okS_h (okS_t hs)
      have h4 := hK _ _ _ _ _ h hl (okS_c h1 (okS_t (okS_t hs))) hf ht htl
      simp only [x_s1, List.map, cV, if_neg (ofI_ne0 hy h0), i_tdiv x y hx hy]
      exact h4
    · exact h.elim
  | irem =>
    simp only [i_s1] at h
    split at h
    · rename_i y x st
      obtain ⟨h0, h1, h⟩ := h
      have hy : inr y := okS_h hs
      have hx : inr x := okS_h (okS_t hs)
      have h4 := hK _ _ _ _ _ h hl (okS_c h1 (okS_t (okS_t hs))) hf ht htl
      simp only [x_s1, List.map, cV, if_neg (ofI_ne0 hy h0), i_tmod x y hx hy]
      exact h4
    · exact h.elim
  | iand =>
    simp only [i_s1] at h
    split at h
    · rename_i y x st
      have h4 := hK _ _ _ _ _ h hl (okS_c (inr_toInt _) (okS_t (okS_t hs))) hf ht htl
      simp only [List.map, cV, b_and, Int32.ofInt_toInt] at h4
      exact h4
    · exact h.elim
  | ior =>
    simp only [i_s1] at h
    split at h
    · rename_i y x st
      have h4 := hK _ _ _ _ _ h hl (okS_c (inr_toInt _) (okS_t (okS_t hs))) hf ht htl
      simp only [List.map, cV, b_or, Int32.ofInt_toInt] at h4
      exact h4
    · exact h.elim
  | ishl =>
    simp only [i_s1] at h
    split at h
    · rename_i y x st
      have h4 := hK _ _ _ _ _ h hl (okS_c (inr_toInt _) (okS_t (okS_t hs))) hf ht htl
      simp only [List.map, cV, b_shl, Int32.ofInt_toInt] at h4
      exact h4
    · exact h.elim
  | ishr =>
    simp only [i_s1] at h
    split at h
    · rename_i y x st
      have h4 := hK _ _ _ _ _ h hl (okS_c (inr_toInt _) (okS_t (okS_t hs))) hf ht htl
      simp only [List.map, cV, b_shr, Int32.ofInt_toInt] at h4
      exact h4
    · exact h.elim
  | iushr =>
    simp only [i_s1] at h
    split at h
    · rename_i y x st
      have h4 := hK _ _ _ _ _ h hl (okS_c (inr_toInt _) (okS_t (okS_t hs))) hf ht htl
      simp only [List.map, cV, b_ushr, Int32.ofInt_toInt] at h4
      exact h4
    · exact h.elim
  | ladd =>
    simp only [i_s1] at h
    split at h
    · exact hK _ _ _ _ _ h hl (okS_c trivial (okS_t (okS_t hs))) hf ht htl
    · exact h.elim
  | lmul =>
    simp only [i_s1] at h
    split at h
    · exact hK _ _ _ _ _ h hl (okS_c trivial (okS_t (okS_t hs))) hf ht htl
    · exact h.elim
  | land =>
    simp only [i_s1] at h
    split at h
    · exact hK _ _ _ _ _ h hl (okS_c trivial (okS_t (okS_t hs))) hf ht htl
    · exact h.elim
  | lor =>
    simp only [i_s1] at h
    split at h
    · exact hK _ _ _ _ _ h hl (okS_c trivial (okS_t (okS_t hs))) hf ht htl
    · exact h.elim
  | ldiv =>
    simp only [i_s1] at h
    split at h
    · have h4 := hK _ _ _ _ _ h.2 hl (okS_c trivial (okS_t (okS_t hs))) hf ht htl
      simp only [x_s1, List.map, cV, if_neg h.1]
      exact h4
    · exact h.elim
  | lshl =>
    simp only [i_s1] at h
    split at h
    · exact hK _ _ _ _ _ h hl (okS_c trivial (okS_t (okS_t hs))) hf ht htl
    · exact h.elim
  | lushr =>
    simp only [i_s1] at h
    split at h
    · exact hK _ _ _ _ _ h hl (okS_c trivial (okS_t (okS_t hs))) hf ht htl
    · exact h.elim
  | lcmp =>
    simp only [i_s1] at h
    split at h
    · have h4 := hK _ _ _ _ _ h hl (okS_c (inr_toInt _) (okS_t (okS_t hs))) hf ht htl
      simp only [List.map, cV, Int32.ofInt_toInt] at h4
      exact h4
    · exact h.elim
  | i2l =>
    simp only [i_s1] at h
    split at h
    · exact hK _ _ _ _ _ h hl (okS_c trivial (okS_t hs)) hf ht htl
    · exact h.elim
  | l2i =>
    simp only [i_s1] at h
    split at h
    · have h4 := hK _ _ _ _ _ h hl (okS_c (inr_toInt _) (okS_t hs)) hf ht htl
      simp only [List.map, cV, b_l2i, Int32.ofInt_toInt] at h4
      exact h4
    · exact h.elim
  | i2c =>
    simp only [i_s1] at h
    split at h
    · have h4 := hK _ _ _ _ _ h hl (okS_c (inr_toInt _) (okS_t hs)) hf ht htl
      simp only [List.map, cV, b_i2c, Int32.ofInt_toInt] at h4
      exact h4
    · exact h.elim
  | dup =>
    simp only [i_s1] at h
    split at h
    · exact hK _ _ _ _ _ h hl (okS_c (okS_h hs) hs) hf ht htl
    · exact hK _ _ _ _ _ h hl (okS_c (okS_h hs) hs) hf ht htl
    · exact h.elim
  | dup2 =>
    simp only [i_s1] at h
    split at h
    · exact hK _ _ _ _ _ h hl (okS_c (okS_h hs) (okS_c (okS_h (okS_t hs)) hs)) hf ht htl
    · exact h.elim
  | arraylength =>
    simp only [i_s1] at h
    split at h
    · split at h
      · rename_i ha
        obtain ⟨h1, h⟩ := i_g_t h
        have h1 := Nat.le_of_ble_eq_true h1
        have h4 := hK _ _ _ _ _ h hl (okS_c (show okv (.inl _) from ⟨by omega, by omega⟩) (okS_t hs)) hf ht htl
        simp only [x_s1, List.map, cV, cT, ha]
        simp only [List.map, cV, Int32.ofInt_eq_ofNat, cT] at h4
        exact h4
      · rename_i ha
        obtain ⟨h1, h⟩ := i_g_t h
        have h1 := Nat.le_of_ble_eq_true h1
        have h4 := hK _ _ _ _ _ h hl (okS_c (show okv (.inl _) from ⟨by omega, by omega⟩) (okS_t hs)) hf ht htl
        simp only [x_s1, List.map, cV, cT, ha]
        simp only [List.map, cV, Int32.ofInt_eq_ofNat, cT] at h4
        exact h4
      · exact h.elim
    · split at h
      · rename_i hq
        obtain ⟨h1, h⟩ := h
        have h4 := hK _ _ _ _ _ h hl (okS_c (show okv (.inl _) from ⟨by omega, by omega⟩) (okS_t hs)) hf ht htl
        simp only [x_s1, List.map, cV, hq]
        simp only [List.map, cV, Int32.ofInt_eq_ofNat] at h4
        exact h4
      · exact h.elim
    · exact h.elim
  | invokeinterface ci k =>
    simp only [i_s1] at h
    split at h
    · split at h
      · rename_i o ha
        obtain ⟨h1, h⟩ := i_g_t h
        simp only [x_s1, List.map, cV, cT, ha, h1, x_g]
        split at h
        · rename_i hk
          have h4 := hK _ _ _ _ _ h hl (okS_c (hf _ _) (okS_t hs)) hf ht htl
          simp only [hk, cF_o ha]
          exact h4
        · rename_i hk
          have h4 := hK _ _ _ _ _ h hl (okS_c (kS_ref ha hk) (okS_t hs)) hf ht htl
          simp only [hk]
          exact h4
        · exact h.elim
      · exact h.elim
    · exact h.elim
  | iaload =>
    simp only [i_s1] at h
    split at h
    · split at h
      · rename_i ha
        obtain ⟨h1, h⟩ := h
        have hi := okS_h hs
        have h4 := hK _ _ _ _ _ h hl (okS_c (hf _ _) (okS_t (okS_t hs))) hf ht htl
        simp only [x_s1, List.map, cV, cT, ha, i_in hi h1, if_true, ofI_clamp hi, cF_a ha h1.1]
        exact h4
      · exact h.elim
    · split at h
      · rename_i hq
        obtain ⟨h1, h⟩ := h
        have hi := okS_h hs
        have h4 := hK _ _ _ _ _ h hl (okS_c (inr_toInt _) (okS_t (okS_t hs))) hf ht htl
        simp only [x_s1, List.map, cV, hq, i_in hi h1, if_true, ofI_clamp hi]
        simp only [List.map, cV, Int32.ofInt_toInt] at h4
        exact h4
      · exact h.elim
    · exact h.elim
  | baload =>
    simp only [i_s1] at h
    split at h
    · split at h
      · rename_i ha
        obtain ⟨h1, h⟩ := h
        have hi := okS_h hs
        have h4 := hK _ _ _ _ _ h hl (okS_c (hf _ _) (okS_t (okS_t hs))) hf ht htl
        simp only [x_s1, List.map, cV, cT, ha, i_in hi h1, if_true, ofI_clamp hi, cF_a ha h1.1]
        exact h4
      · exact h.elim
    · exact h.elim
  | laload =>
    simp only [i_s1] at h
    split at h
    · split at h
      · rename_i ha
        obtain ⟨h1, h⟩ := h
        have hi := okS_h hs
        have h4 := hK _ _ _ _ _ h hl (okS_c trivial (okS_t (okS_t hs))) hf ht htl
        simp only [x_s1, List.map, cV, cT, ha, i_in hi h1, if_true, ofI_clamp hi, cG_a h1.1]
        exact h4
      · exact h.elim
    · exact h.elim
  | iastore =>
    simp only [i_s1] at h
    split at h
    · split at h
      · rename_i ha
        obtain ⟨h1, h⟩ := h
        have hi := okS_h (okS_t hs)
        have h4 := hK _ _ _ _ _ h hl (okS_t (okS_t (okS_t hs))) (InR_wv hf (okS_h hs)) ht htl
        simp only [x_s1, List.map, cV, cT, ha, i_in hi h1, if_true, ofI_clamp hi, x_si, cF_arr ha h1.1]
        exact h4
      · exact h.elim
    · exact h.elim
  | bastore =>
    simp only [i_s1] at h
    split at h
    · split at h
      · rename_i ha
        obtain ⟨h1, h2, h⟩ := h
        have hi := okS_h (okS_t hs)
        have h4 := hK _ _ _ _ _ h hl (okS_t (okS_t (okS_t hs))) (InR_wv hf (okS_h hs)) ht htl
        simp only [x_s1, List.map, cV, cT, ha, i_in hi h1, if_true, ofI_clamp hi, x_si, i_nar h2, cF_arr ha h1.1]
        exact h4
      · exact h.elim
    · exact h.elim
  | lastore =>
    simp only [i_s1] at h
    split at h
    · split at h
      · rename_i ha
        obtain ⟨h1, h⟩ := h
        have hi := okS_h (okS_t hs)
        have h4 := hK _ _ _ _ _ h hl (okS_t (okS_t (okS_t hs))) hf ht htl
        simp only [x_s1, List.map, cV, cT, ha, i_in hi h1, if_true, ofI_clamp hi, x_sl, cG_wg h1.1]
        exact h4
      · exact h.elim
    · exact h.elim
  | multianewarray ci k =>
    simp only [i_s1] at h
    split at h
    · split at h
      · rename_i o ha
        obtain ⟨h1, h⟩ := i_g_t h
        simp only [x_s1, List.map, cV, cT, ha, h1, x_g]
        split at h
        · rename_i hk
          simp only [hk]
          split at h
          · rename_i hb
            have h4 := hK _ _ _ _ _ h hl (okS_t (okS_t hs)) (InR_wv hf (okS_h hs)) ht htl
            simp only [hb, Bool.true_or, x_si, cF_put ha]
            exact h4
          · rename_i hb
            have h4 := hK _ _ _ _ _ h.2 hl (okS_t (okS_t hs)) (InR_wv hf (okS_h hs)) ht htl
            simp only [hb, Bool.false_or, i_01 h.1, x_si, cF_put ha]
            exact h4
        · exact h.elim
      · exact h.elim
    · exact h.elim
  | invokedynamic b =>
    match b, h with
    | 0, h =>
      simp only [i_s1] at h
      split at h
      · obtain ⟨h1, h⟩ := i_g_t h
        have hy := okS_h hs
        have hx := okS_h (okS_t hs)
        have h4 := hK _ _ _ _ _ h hl (okS_c (show okv (.inl _) from by simp only [okv] at hx hy; exact ⟨by omega, by omega⟩) (okS_t (okS_t hs))) hf ht htl
        simp only [x_s1, List.map, cV, i_sm_x, h1, x_g, i_max _ _ hx hy]
        exact h4
      · exact h.elim
    | 1, h =>
      simp only [i_s1] at h
      split at h
      · obtain ⟨h1, h⟩ := i_g_t h
        have hy := okS_h hs
        have hx := okS_h (okS_t hs)
        have h4 := hK _ _ _ _ _ h hl (okS_c (show okv (.inl _) from by simp only [okv] at hx hy; exact ⟨by omega, by omega⟩) (okS_t (okS_t hs))) hf ht htl
        simp only [x_s1, List.map, cV, i_sm_x, h1, x_g, i_min _ _ hx hy]
        exact h4
      · exact h.elim
    | 2, h =>
      simp only [i_s1] at h
      split at h
      · split at h
        · rename_i n dp b sp a st' _ _ na nb ha hb
          obtain ⟨h1, h2, h⟩ := i_g_t h
          have hn := okS_h hs
          have hd := okS_h (okS_t hs)
          have hp := okS_h (okS_t (okS_t (okS_t hs)))
          have h4 := hK _ _ _ _ _ h hl (okS_t (okS_t (okS_t (okS_t (okS_t hs))))) (InR_acp hf) ht htl
          simp only [x_s1, List.map, cV, cT, ha, hb, i_sm_x, x_sf, ofI_clamp hn, ofI_clamp hd, ofI_clamp hp]
          rw [if_pos ⟨Nat.le_of_ble_eq_true h1, i_nn hp h2.1, i_nn hd h2.2.1, i_nn hn h2.2.2.1, by omega, by omega⟩, cF_acp ha hb h2.1 h2.2.1 h2.2.2.1]
          exact h4
        · exact h.elim
      · exact h.elim
    | b + 3, h => exact h.elim
  | _ => exact h.elim
end I1
