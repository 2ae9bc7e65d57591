theorem cL_take {M m : Nat} {lv : iL} {tl : x_L} (hl : okL lv) (h : lv.length + tl.length = M) (ht : x_okl 106 tl = true) : ∃ tl', cL lv ++ tl = cL (lv.take m) ++ tl' ∧ (lv.take m).length + tl'.length = M ∧ x_okl 106 tl' = true := by
  refine ⟨cL (lv.drop m) ++ tl, ?_, ?_, okl_all (fun v hv => hl v (List.mem_of_mem_drop hv)) ht⟩
  · rw [← List.append_assoc]
    congr 1
    unfold cL
    rw [← List.map_append, List.take_append_drop]
  · rw [List.length_append, cL_len]
    have : (lv.take m).length + (lv.drop m).length = lv.length := by rw [← List.length_append, List.take_append_drop]
    omega
theorem okL_take {m : Nat} {lv : iL} (hl : okL lv) : okL (lv.take m) := fun v hv => hl v (List.mem_of_mem_take hv)
theorem i_tb_ok {x : Int} {K : Int → Prop} {d : Int} : ∀ (l : List Int) (lo : Int), i_tb x K d lo l → K (if x < lo then d else (l[(x - lo).toNat]?).getD d) := by
  intro l
  induction l with
  | nil => intro lo h; simpa [i_tb] using h
  | cons t l ih =>
    intro lo h
    obtain ⟨h1, h2⟩ := h
    by_cases e : x = lo
    · rw [if_neg (by omega), show (x - lo).toNat = 0 by omega]
      exact h1 e
    · have h3 := ih (lo + 1) (h2 e)
      by_cases h4 : x < lo
      · rw [if_pos (by omega)] at h3; rw [if_pos h4]; exact h3
      · rw [if_neg (by omega)] at h3
        rw [if_neg h4, show (x - lo).toNat = (x - (lo + 1)).toNat + 1 by omega]
        exact h3
theorem i_lk_ok {x : Int} {K : Int → Prop} {d : Int} : ∀ (l : List (Int × Int)), i_lk x K d l → K (Op.lookupswitch.offset l d x) := by
  intro l
  induction l with
  | nil => intro h; exact h
  | cons t l ih =>
    intro h
    obtain ⟨a, o⟩ := t
    obtain ⟨h1, h2⟩ := h
    rw [Op.lookupswitch.offset_cons]
    by_cases e : x = a
    · rw [if_pos e.symm]; exact h1 e
    · rw [if_neg (fun h => e h.symm)]; exact ih (h2 e)
theorem i_br_ok {P : x_Z → Prop} {c : ClassFile.Cond} {x y : Int} {A B : Prop} {a b : x_Z} (hx : inr x) (hy : inr y) (h : i_br c x y A B) (ha : A → P a) (hb : B → P b) : P (if x_cmp c (Int32.ofInt x) (Int32.ofInt y) = true then a else b) := by
  have e1 : Int32.ofInt x = Int32.ofInt y ↔ x = y := by rw [← Int32.toInt_inj, ofI_toInt hx, ofI_toInt hy]
  have e2 : Int32.ofInt x < Int32.ofInt y ↔ x < y := by rw [Int32.lt_iff_toInt_lt, ofI_toInt hx, ofI_toInt hy]
  have e3 : Int32.ofInt y < Int32.ofInt x ↔ y < x := by rw [Int32.lt_iff_toInt_lt, ofI_toInt hx, ofI_toInt hy]
  have e4 : Int32.ofInt x ≤ Int32.ofInt y ↔ ¬ y < x := by rw [Int32.le_iff_toInt_le, ofI_toInt hx, ofI_toInt hy]; omega
  have e5 : Int32.ofInt y ≤ Int32.ofInt x ↔ ¬ x < y := by rw [Int32.le_iff_toInt_le, ofI_toInt hx, ofI_toInt hy]; omega
  cases c
  · simp only [x_cmp, e1, decide_eq_true_eq]
    by_cases hh : x = y
    · rw [if_pos hh]; exact ha (h.1 hh)
    · rw [if_neg hh]; exact hb (h.2 hh)
  · by_cases hh : x = y
    · simp only [x_cmp, e1, hh, decide_true, Bool.not_true, Bool.false_eq_true, if_false]; exact hb (h.1 hh)
    · simp only [x_cmp, e1, hh, decide_false, Bool.not_false, if_true]; exact ha (h.2 hh)
  · simp only [x_cmp, e2, decide_eq_true_eq]
    by_cases hh : x < y
    · rw [if_pos hh]; exact ha (h.1 hh)
    · rw [if_neg hh]; exact hb (h.2 hh)
  · simp only [x_cmp, e5, decide_eq_true_eq]
    by_cases hh : x < y
    · rw [if_neg (fun k => k hh)]; exact hb (h.1 hh)
    · rw [if_pos hh]; exact ha (h.2 hh)
  · simp only [x_cmp, e3, decide_eq_true_eq]
    by_cases hh : y < x
    · rw [if_pos hh]; exact ha (h.1 hh)
    · rw [if_neg hh]; exact hb (h.2 hh)
  · simp only [x_cmp, e4, decide_eq_true_eq]
    by_cases hh : y < x
    · rw [if_neg (fun k => k hh)]; exact hb (h.1 hh)
    · rw [if_pos hh]; exact ha (h.2 hh)
theorem zOK_bd {R Q : Option iv → iF → iG → Prop} {z : x_Z} {K : Option Value → x_T → x_Z} (h : zOK R z) (hk : ∀ v f g, InR f → (∀ w, v = some w → okv w) → R v f g → zOK Q (K (v.map cV) (cT f g))) : zOK Q (x_bd z K) := by
  obtain ⟨v, f, g, rfl, h1, h2, h3⟩ := h
  exact hk v f g h1 h2 h3
theorem okS_app {v : Option iv} {r : List iv} (hv : ∀ w, v = some w → okv w) (hr : okS r) : okS (v.toList ++ r) := by
  intro w hw
  rcases List.mem_append.mp hw with h | h
  · cases v with
    | none => simp at h
    | some u => simp at h; subst h; exact hv _ rfl
  · exact hr w h
theorem map_tol (v : Option iv) (r : List iv) : (v.toList ++ r).map cV = (v.map cV).toList ++ r.map cV := by
  cases v <;> simp
section I2
variable {d n M p0 : Nat} {XT : x_Xt} {cuts : List (Nat × Nat)} {O : Nat → List iv → iF → iG → (Option iv → iF → iG → Prop) → Prop} {J : Bool → Nat → iL → List iv → iF → iG → Prop} {Q : Option iv → iF → iG → Prop} {code : List Instr}
set_option maxHeartbeats 4000000 in
theorem i_ev_ok (hO : ∀ μ vs f g R, O μ vs f g R → wq d μ vs f g R)
  (hJf : ∀ j lv st f g tl k', p0 < j → J false j lv st f g → okL lv → okS st → InR f → lv.length + tl.length = M → x_okl 106 tl = true → 700 ≤ k' + j → zOK Q (x_ev kE XT (pe d) (x_lp kE XT (pe d) code 700 n) code k' (code.drop j) (cL lv ++ tl) (st.map cV) (cT f g)))
  (hJb : ∀ j lv f g tl, J true j lv [] f g → okL lv → InR f → lv.length + tl.length = M → x_okl 106 tl = true → zOK Q (x_lp kE XT (pe d) code 700 n j (cL lv ++ tl) (cT f g))) :
  ∀ k pc rest lv st f g tl k', i_wp M XT cuts O J Q code k pc rest lv st f g → rest = code.drop pc → p0 ≤ pc → okL lv → okS st → InR f → lv.length + tl.length = M → x_okl 106 tl = true → k ≤ k' → 700 ≤ k' + pc → zOK Q (x_ev kE XT (pe d) (x_lp kE XT (pe d) code 700 n) code k' rest (cL lv ++ tl) (st.map cV) (cT f g)) := by
  intro k
  induction k with
  | zero => intro pc rest lv st f g tl k' h; exact h.elim
  | succ k ih =>
    intro pc rest lv st f g tl k' h hr hp hl hs hf ht htl hk hk7
    obtain ⟨k', rfl⟩ : ∃ k2, k' = k2 + 1 := ⟨k' - 1, by omega⟩
    have go : ∀ t lv st f g tl, pc < t → (match i_ck cuts t with
        | some m => J false t (lv.take m) st f g
        | none => i_wp M XT cuts O J Q code k t (code.drop t) lv st f g) → okL lv → okS st → InR f → lv.length + tl.length = M → x_okl 106 tl = true → zOK Q (x_ev kE XT (pe d) (x_lp kE XT (pe d) code 700 n) code k' (code.drop t) (cL lv ++ tl) (st.map cV) (cT f g)) := by
      intro t lv st f g tl hpt h hl hs hf ht htl
      split at h
      · rename_i m _
        obtain ⟨tl', e, e1, e2⟩ := cL_take (m := m) hl ht htl
        rw [e]
        exact hJf t _ st f g tl' k' (by omega) h (okL_take hl) hs hf e1 e2 (by omega)
      · exact ih t _ lv st f g tl k' h rfl (by omega) hl hs hf ht htl (by omega) (by omega)
    have back : ∀ t lv f g tl, (match i_ck cuts t with
        | some m => J true t (lv.take m) [] f g
        | none => False) → okL lv → InR f → lv.length + tl.length = M → x_okl 106 tl = true → zOK Q (x_lp kE XT (pe d) code 700 n t (cL lv ++ tl) (cT f g)) := by
      intro t lv f g tl h hl hf ht htl
      split at h
      · rename_i m _
        obtain ⟨tl', e, e1, e2⟩ := cL_take (m := m) hl ht htl
        rw [e]
        exact hJb t _ f g tl' h (okL_take hl) hf e1 e2
      · exact h.elim
    cases rest with
    | nil => exact h.elim
    | cons i rest =>
      have hr1 : rest = code.drop (pc + 1) := by
        have := congrArg List.tail hr
        simpa [List.tail_drop] using this
      have nx : ∀ lv st f g tl, (match i_ck cuts (pc + 1) with
        | some m => J false (pc + 1) (lv.take m) st f g
        | none => i_wp M XT cuts O J Q code k (pc + 1) rest lv st f g) → okL lv → okS st → InR f → lv.length + tl.length = M → x_okl 106 tl = true → zOK Q (x_ev kE XT (pe d) (x_lp kE XT (pe d) code 700 n) code k' rest (cL lv ++ tl) (st.map cV) (cT f g)) := by
        intro lv st f g tl h
        rw [hr1] at h ⊢
        exact go (pc + 1) lv st f g tl (by omega) h
      have plain : ∀ i, i_s1 M XT i lv st f g (fun lv st f g => match i_ck cuts (pc + 1) with
        | some m => J false (pc + 1) (lv.take m) st f g
        | none => i_wp M XT cuts O J Q code k (pc + 1) rest lv st f g) → zOK Q (x_s1 XT i (cL lv ++ tl) (st.map cV) (cT f g) (fun lv st T => x_ev kE XT (pe d) (x_lp kE XT (pe d) code 700 n) code k' rest lv st T)) := fun i h => i_s1_ok (P := zOK Q) i hl hs hf ht htl h (fun lv st f g tl h hl hs hf ht htl => nx lv st f g tl h hl hs hf ht htl)
      have plain1 := plain i
      clear plain
      cases i with
      | goto j =>
        obtain ⟨h1, h⟩ := i_g_t h
        exact go j.toNat lv st f g tl (Nat.blt_eq.mp h1) h hl hs hf ht htl
      | jsr_w j =>
        cases st with
        | nil => exact back j.toNat lv f g tl h hl hf ht htl
        | cons v st => exact h.elim
      | ifCond c j =>
        cases st with
        | nil => exact h.elim
        | cons v st =>
          rcases v with x | x | x | x
          · refine i_br_ok (P := zOK Q) (okS_h hs) (show inr 0 from by decide) h (fun h => ?_) (fun h => nx lv st f g tl h hl (okS_t hs) hf ht htl)
            cases j with
            | ofNat t =>
              obtain ⟨h1, h⟩ := i_g_t h
              exact go t lv st f g tl (Nat.blt_eq.mp h1) h hl (okS_t hs) hf ht htl
            | negSucc t =>
              cases st with
              | nil => exact back t lv f g tl h hl hf ht htl
              | cons v st => exact h.elim
          · exact h.elim
          · exact h.elim
          · exact h.elim
      | if_icmp c j =>
        cases st with
        | nil => exact h.elim
        | cons v st =>
          cases st with
          | nil => rcases v with x | x | x | x <;> exact h.elim
          | cons u st =>
            rcases v with y | x | x | x
            · rcases u with x | x | x | x
              · refine i_br_ok (P := zOK Q) (okS_h (okS_t hs)) (okS_h hs) h (fun h => ?_) (fun h => nx lv st f g tl h hl (okS_t (okS_t hs)) hf ht htl)
                cases j with
                | ofNat t =>
                  obtain ⟨h1, h⟩ := i_g_t h
                  exact go t lv st f g tl (Nat.blt_eq.mp h1) h hl (okS_t (okS_t hs)) hf ht htl
                | negSucc t =>
                  cases st with
                  | nil => exact back t lv f g tl h hl hf ht htl
                  | cons v st => exact h.elim
              · exact h.elim
              · exact h.elim
              · exact h.elim
            · exact h.elim
            · exact h.elim
            · exact h.elim
      | tableswitch d0 lo hi offs =>
        cases st with
        | nil => exact h.elim
        | cons v st =>
          rcases v with x | x | x | x
          · have h1 := i_tb_ok _ _ h
            obtain ⟨h2, h1⟩ := i_g_t h1
            have h3 := go _ lv st f g tl (Nat.blt_eq.mp h2) h1 hl (okS_t hs) hf ht htl
            have e : x_pick lo offs.toList d0 (Int32.ofInt x) = if x < lo then d0 else (offs.toList[(x - lo).toNat]?).getD d0 := by unfold x_pick; rw [ofI_toInt (okS_h hs)]
            rw [← e] at h3
            exact h3
          · exact h.elim
          · exact h.elim
          · exact h.elim
      | lookupswitch d0 ps =>
        cases st with
        | nil => exact h.elim
        | cons v st =>
          rcases v with x | x | x | x
          · have h1 := i_lk_ok _ h
            obtain ⟨h2, h1⟩ := i_g_t h1
            have h3 := go _ lv st f g tl (Nat.blt_eq.mp h2) h1 hl (okS_t hs) hf ht htl
            rw [← ofI_toInt (z := x) (okS_h hs)] at h3
            exact h3
          · exact h.elim
          · exact h.elim
          · exact h.elim
      | return_ =>
        cases st with
        | nil => exact ⟨none, f, g, rfl, hf, (fun w hw => by cases hw), h⟩
        | cons v st => exact h.elim
      | ireturn =>
        cases st with
        | nil => exact h.elim
        | cons v st =>
          cases st with
          | cons u st => rcases v with x | x | x | x <;> exact h.elim
          | nil =>
            rcases v with x | x | x | x
            · exact ⟨some (.inl x), f, g, rfl, hf, (fun w hw => by cases hw; exact okS_h hs), h⟩
            · exact h.elim
            · exact h.elim
            · exact h.elim
      | areturn =>
        cases st with
        | nil => exact h.elim
        | cons v st =>
          cases st with
          | cons u st => rcases v with x | x | x | x <;> exact h.elim
          | nil =>
            rcases v with x | x | x | x
            · refine ⟨some (.inl x), f, g, ?_, hf, (fun w hw => by cases hw; exact okS_h hs), h.2⟩
              show x_g (decide (Int32.ofInt x = 0 ∨ Int32.ofInt x = 1)) _ = _
              rw [i_01 h.1]
              rfl
            · exact h.elim
            · exact h.elim
            · exact h.elim
      | lreturn =>
        cases st with
        | nil => exact h.elim
        | cons v st =>
          cases st with
          | cons u st => rcases v with x | x | x | x <;> exact h.elim
          | nil =>
            rcases v with x | x | x | x
            · exact h.elim
            · exact h.elim
            · exact ⟨some (.inr (.inr (.inl x))), f, g, rfl, hf, (fun w hw => by cases hw; trivial), h⟩
            · exact h.elim
      | invokevirtual μ =>
        simp only [i_wp] at h
        split at h
        · rename_i b r hdr
          split at h
          · rename_i o ho
            obtain ⟨h1, h⟩ := i_g_t h
            simp only [Bool.and_eq_true] at h1
            have hsr : okS (.inr (.inl b) :: r) := fun v hv => hs v (List.mem_of_mem_drop (by rw [hdr]; exact hv))
            have e1 : (st.map cV).drop (kE.2.1 μ).1 = .ref b :: r.map cV := by rw [← List.map_drop, hdr]; rfl
            have e2 : ((st.map cV).take (kE.2.1 μ).1).reverse = (st.take (kE.2.1 μ).1).reverse.map cV := by rw [← List.map_take, List.map_reverse]
            have hq := hO _ _ _ _ _ h (okS_c (okS_h hsr) (fun v hv => hs v (List.mem_of_mem_take (List.mem_reverse.mp hv)))) hf
            have hg : (Nat.beq o.1 (kE.2.1 μ).2 && (Nat.ble (x_sm (r.map cV)) 8 && (x_okl 106 (cL lv ++ tl) && x_oks 106 (r.map cV)))) = true := by rw [h1.1, i_sm_x, h1.2, okl_all hl htl, oks_all (okS_t hsr)]; rfl
            have := zOK_bd (Q := Q) (K := fun v T' => x_ev kE XT (pe d) (x_lp kE XT (pe d) code 700 n) code k' rest (cL lv ++ tl) (v.toList ++ r.map cV) T') hq (fun v f g hf hv hR => by rw [← map_tol]; exact nx lv _ f g tl hR hl (okS_app hv (okS_t hsr)) hf ht htl)
            simp only [x_ev, e1, e2, cT, ho]
            rw [show x_g (Nat.beq o.1 (kE.2.1 μ).2 && (Nat.ble (x_sm (r.map cV)) 8 && (x_okl kS.length (cL lv ++ tl) && x_oks kS.length (r.map cV)))) = x_g true from by rw [show kS.length = 106 from rfl, hg]]
            exact this
          · exact h.elim
        · exact h.elim
      | checkcast μ =>
        simp only [i_wp] at h
        split at h
        · rename_i b r hdr
          obtain ⟨h1, h⟩ := i_g_t h
          simp only [Bool.and_eq_true] at h1
          have hsr : okS (.inr (.inr (.inr b)) :: r) := fun v hv => hs v (List.mem_of_mem_drop (by rw [hdr]; exact hv))
          have e1 : (st.map cV).drop (kE.2.1 μ).1 = .retAddr b :: r.map cV := by rw [← List.map_drop, hdr]; rfl
          have e2 : ((st.map cV).take (kE.2.1 μ).1).reverse = (st.take (kE.2.1 μ).1).reverse.map cV := by rw [← List.map_take, List.map_reverse]
          have hq := hO _ _ _ _ _ h (okS_c trivial (fun v hv => hs v (List.mem_of_mem_take (List.mem_reverse.mp hv)))) hf
          have hg : (Nat.blt b 2 && (Nat.ble (x_sm (r.map cV)) 8 && (x_okl 106 (cL lv ++ tl) && x_oks 106 (r.map cV)))) = true := by rw [h1.1, i_sm_x, h1.2, okl_all hl htl, oks_all (okS_t hsr)]; rfl
          have := zOK_bd (Q := Q) (K := fun v T' => x_ev kE XT (pe d) (x_lp kE XT (pe d) code 700 n) code k' rest (cL lv ++ tl) (v.toList ++ r.map cV) T') hq (fun v f g hf hv hR => by rw [← map_tol]; exact nx lv _ f g tl hR hl (okS_app hv (okS_t hsr)) hf ht htl)
          simp only [x_ev, e1, e2, cT]
          rw [show x_g (Nat.blt b 2 && (Nat.ble (x_sm (r.map cV)) 8 && (x_okl kS.length (cL lv ++ tl) && x_oks kS.length (r.map cV)))) = x_g true from by rw [show kS.length = 106 from rfl, hg]]
          exact this
        · exact h.elim
      | invokestatic μ =>
        obtain ⟨h1, h⟩ := i_g_t h
        simp only [Bool.and_eq_true] at h1
        have hsr : okS (st.drop (kE.2.1 μ).1) := fun v hv => hs v (List.mem_of_mem_drop hv)
        have e1 : (st.map cV).drop (kE.2.1 μ).1 = (st.drop (kE.2.1 μ).1).map cV := by rw [← List.map_drop]
        have e2 : ((st.map cV).take (kE.2.1 μ).1).reverse = (st.take (kE.2.1 μ).1).reverse.map cV := by rw [← List.map_take, List.map_reverse]
        have hq := hO _ _ _ _ _ h (fun v hv => hs v (List.mem_of_mem_take (List.mem_reverse.mp hv))) hf
        have hg : (Nat.ble (x_sm ((st.drop (kE.2.1 μ).1).map cV)) 8 && (Nat.ble (kE.2.1 μ).1 (st.map cV).length && (x_okl 106 (cL lv ++ tl) && x_oks 106 ((st.drop (kE.2.1 μ).1).map cV)))) = true := by rw [i_sm_x, h1.1, List.length_map, h1.2, okl_all hl htl, oks_all hsr]; rfl
        have := zOK_bd (Q := Q) (K := fun v T' => x_ev kE XT (pe d) (x_lp kE XT (pe d) code 700 n) code k' rest (cL lv ++ tl) (v.toList ++ (st.drop (kE.2.1 μ).1).map cV) T') hq (fun v f g hf hv hR => by rw [← map_tol]; exact nx lv _ f g tl hR hl (okS_app hv hsr) hf ht htl)
        simp only [x_ev, e1, e2, cT]
        rw [show x_g (Nat.ble (x_sm ((st.drop (kE.2.1 μ).1).map cV)) 8 && (Nat.ble (kE.2.1 μ).1 (st.map cV).length && (x_okl kS.length (cL lv ++ tl) && x_oks kS.length ((st.drop (kE.2.1 μ).1).map cV)))) = x_g true from by rw [show kS.length = 106 from rfl, hg]]
        exact this
      | new ci => exact h.elim
      | invokespecial μ => exact h.elim
      | _ => exact plain1 h
end I2
def i_ar : List iv → iL
  | [] => []
  | v :: l => match v with
    | .inr (.inr (.inl _)) => some v :: none :: i_ar l
    | _ => some v :: i_ar l
theorem i_ar_x (vs : List iv) : cL (i_ar vs) = x_ar (vs.map cV) := by
  induction vs with
  | nil => rfl
  | cons v l ih =>
    rcases v with x | x | x | x
    · show some _ :: cL (i_ar l) = _; rw [ih]; rfl
    · show some _ :: cL (i_ar l) = _; rw [ih]; rfl
    · show some _ :: none :: cL (i_ar l) = _; rw [ih]; rfl
    · show some _ :: cL (i_ar l) = _; rw [ih]; rfl
theorem i_ar_ok {vs : List iv} (h : okS vs) : okL (i_ar vs) := by
  induction vs with
  | nil => intro v hv; simp [i_ar] at hv
  | cons v l ih =>
    have ih := ih (okS_t h)
    have h0 := okS_h h
    intro w hw
    rcases v with x | x | x | x
    · rcases List.mem_cons.mp hw with e | hw
      · cases e; exact h0
      · exact ih w hw
    · rcases List.mem_cons.mp hw with e | hw
      · cases e; exact h0
      · exact ih w hw
    · rcases List.mem_cons.mp hw with e | hw
      · cases e; exact h0
      · rcases List.mem_cons.mp hw with e | hw
        · cases e
        · exact ih w hw
    · rcases List.mem_cons.mp hw with e | hw
      · cases e; exact h0
      · exact ih w hw
/-- calls of a run: what the callee's contract says -/
def hO_ (d : Nat) (O : Nat → List iv → iF → iG → (Option iv → iF → iG → Prop) → Prop) : Prop := ∀ {μ vs f g R}, wq d μ vs f g R → O μ vs f g R
/-- THE RULE FOR A METHOD: its cuts (places with the number of locals kept there), an invariant at each with a number that falls at each jump back -/
theorem i_meth {d μ : Nat} {vs : List iv} {f : iF} {g : iG} {Q : Option iv → iF → iG → Prop} (cuts : List (Nat × Nat)) (I : Nat → Nat → iL → List iv → iF → iG → Prop) (N : Nat) (hN : N ≤ 4000) (hμ : Nat.ble 1000 μ = false) (hv : Nat.ble (i_ar vs).length (kE.2.2.1 μ) = true)
  (hI : ∀ n j lv st f g, n ≤ N → I n j lv st f g → ∀ (O : Nat → List iv → iF → iG → (Option iv → iF → iG → Prop) → Prop) (J : Bool → Nat → iL → List iv → iF → iG → Prop), (∀ {μ vs f g R}, wq d μ vs f g R → O μ vs f g R) → (∀ {j' lv st f g} m, m ≤ n → I m j' lv st f g → J false j' lv st f g) → (∀ {j' lv f g} m, m < n → I m j' lv [] f g → J true j' lv [] f g) → i_wp (kE.2.2.1 μ) x_nx cuts O J Q (kE.2.2.2 μ) (700 - j) j ((kE.2.2.2 μ).drop j) lv st f g)
  (h0 : okS vs → InR f → ∀ (O : Nat → List iv → iF → iG → (Option iv → iF → iG → Prop) → Prop) (J : Bool → Nat → iL → List iv → iF → iG → Prop), (∀ {μ vs f g R}, wq d μ vs f g R → O μ vs f g R) → (∀ {j' lv st f g} m, m ≤ N → I m j' lv st f g → J false j' lv st f g) → i_wp (kE.2.2.1 μ) x_nx cuts O J Q (kE.2.2.2 μ) 700 0 (kE.2.2.2 μ) (i_ar vs) [] f g) : wq (d + 1) μ vs f g Q := by
  intro hvs hf
  have main : ∀ (nn r j m : Nat) lv st f g tl k', 700 - j ≤ r → m ≤ nn → m ≤ N → I m j lv st f g → okL lv → okS st → InR f → lv.length + tl.length = kE.2.2.1 μ → x_okl 106 tl = true → 700 ≤ k' + j → zOK Q (x_ev kE x_nx (pe d) (x_lp kE x_nx (pe d) (kE.2.2.2 μ) 700 nn) (kE.2.2.2 μ) k' ((kE.2.2.2 μ).drop j) (cL lv ++ tl) (st.map cV) (cT f g)) := by
    intro nn
    induction nn with
    | zero =>
      intro r
      induction r with
      | zero =>
        intro j m lv st f g tl k' hr hm hmN hi
        have := hI m j lv st f g hmN hi (fun μ vs f g R => wq d μ vs f g R) (fun b j lv st f g => (b = false ∧ ∃ m' , m' ≤ m ∧ I m' j lv st f g) ∨ (b = true ∧ ∃ m', m' < m ∧ I m' j lv st f g)) (fun h => h) (fun m' h1 h2 => Or.inl ⟨rfl, m', h1, h2⟩) (fun m' h1 h2 => Or.inr ⟨rfl, m', h1, h2⟩)
        rw [show 700 - j = 0 by omega] at this
        exact this.elim
      | succ r ihr =>
        intro j m lv st f g tl k' hr hm hmN hi hl hs hf ht htl hk
        have := hI m j lv st f g hmN hi (fun μ vs f g R => wq d μ vs f g R) (fun b j lv st f g => (b = false ∧ ∃ m' , m' ≤ m ∧ I m' j lv st f g) ∨ (b = true ∧ ∃ m', m' < m ∧ I m' j lv st f g)) (fun h => h) (fun m' h1 h2 => Or.inl ⟨rfl, m', h1, h2⟩) (fun m' h1 h2 => Or.inr ⟨rfl, m', h1, h2⟩)
        refine i_ev_ok (p0 := j) (O := fun μ vs f g R => wq d μ vs f g R) (fun μ vs f g R h => h) (fun j' lv st f g tl k' hj hJ hl hs hf ht htl hk => ?_) (fun j' lv f g tl hJ hl hf ht htl => ?_) (700 - j) j _ lv st f g tl k' this rfl (Nat.le_refl _) hl hs hf ht htl (by omega) hk
        · rcases hJ with ⟨-, m', h1, h2⟩ | ⟨h1, -⟩
          · exact ihr j' m' lv st f g tl k' (by omega) (by omega) (by omega) h2 hl hs hf ht htl hk
          · cases h1
        · rcases hJ with ⟨h1, -⟩ | ⟨-, m', h1, h2⟩
          · cases h1
          · omega
    | succ nn ihn =>
      intro r
      induction r with
      | zero =>
        intro j m lv st f g tl k' hr hm hmN hi
        have := hI m j lv st f g hmN hi (fun μ vs f g R => wq d μ vs f g R) (fun b j lv st f g => (b = false ∧ ∃ m' , m' ≤ m ∧ I m' j lv st f g) ∨ (b = true ∧ ∃ m', m' < m ∧ I m' j lv st f g)) (fun h => h) (fun m' h1 h2 => Or.inl ⟨rfl, m', h1, h2⟩) (fun m' h1 h2 => Or.inr ⟨rfl, m', h1, h2⟩)
        rw [show 700 - j = 0 by omega] at this
        exact this.elim
      | succ r ihr =>
        intro j m lv st f g tl k' hr hm hmN hi hl hs hf ht htl hk
        have := hI m j lv st f g hmN hi (fun μ vs f g R => wq d μ vs f g R) (fun b j lv st f g => (b = false ∧ ∃ m' , m' ≤ m ∧ I m' j lv st f g) ∨ (b = true ∧ ∃ m', m' < m ∧ I m' j lv st f g)) (fun h => h) (fun m' h1 h2 => Or.inl ⟨rfl, m', h1, h2⟩) (fun m' h1 h2 => Or.inr ⟨rfl, m', h1, h2⟩)
        refine i_ev_ok (p0 := j) (O := fun μ vs f g R => wq d μ vs f g R) (fun μ vs f g R h => h) (fun j' lv st f g tl k' hj hJ hl hs hf ht htl hk => ?_) (fun j' lv f g tl hJ hl hf ht htl => ?_) (700 - j) j _ lv st f g tl k' this rfl (Nat.le_refl _) hl hs hf ht htl (by omega) hk
        · rcases hJ with ⟨-, m', h1, h2⟩ | ⟨h1, -⟩
          · exact ihr j' m' lv st f g tl k' (by omega) (by omega) (by omega) h2 hl hs hf ht htl hk
          · cases h1
        · rcases hJ with ⟨h1, -⟩ | ⟨-, m', h1, h2⟩
          · cases h1
          · show zOK Q (x_ev _ _ _ _ _ _ _ _ [] _)
            exact ihn 700 j' m' lv [] f g tl 700 (by omega) (by omega) (by omega) h2 hl (fun v hv => by simp at hv) hf ht htl (by omega)
  have hv := Nat.le_of_ble_eq_true hv
  have hlen : (x_ar (vs.map cV)).length = (i_ar vs).length := by rw [← i_ar_x, cL_len]
  have h1 := h0 hvs hf (fun μ vs f g R => wq d μ vs f g R) (fun b j lv st f g => b = false ∧ ∃ m' , m' ≤ N ∧ I m' j lv st f g) (fun h => h) (fun m' h1 h2 => ⟨rfl, m', h1, h2⟩)
  have h2 : zOK Q (ze d μ 4000 700 (kE.2.2.2 μ) (x_ar (vs.map cV) ++ List.replicate (kE.2.2.1 μ - (x_ar (vs.map cV)).length) none) [] (cT f g)) := by
    rw [hlen, ← i_ar_x]
    refine i_ev_ok (p0 := 0) (O := fun μ vs f g R => wq d μ vs f g R) (fun μ vs f g R h => h) (fun j' lv st f g tl k' hj hJ hl hs hf ht htl hk => ?_) (fun j' lv f g tl hJ hl hf ht htl => ?_) 700 0 _ (i_ar vs) [] f g _ 700 h1 rfl (Nat.le_refl _) (i_ar_ok hvs) (fun v hv => by simp at hv) hf (by rw [List.length_replicate]; omega) ?_ (Nat.le_refl _) (Nat.le_refl _)
    · obtain ⟨-, m', h1, h2⟩ := hJ
      exact main 4000 700 j' m' lv st f g tl k' (by omega) (by omega) h1 h2 hl hs hf ht htl hk
    · obtain ⟨h1, -⟩ := hJ
      cases h1
    · exact List.all_eq_true.mpr (fun o ho => by rw [(List.mem_replicate.mp ho).2])
  obtain ⟨v, f', g', e, h3, h4, h5⟩ := h2
  exact ⟨v, f', g', e_in hμ (by rw [hlen]; exact hv) e, h3, h4, h5⟩
/-- a method without cuts -/
theorem i_meth0 {d μ : Nat} {vs : List iv} {f : iF} {g : iG} {Q : Option iv → iF → iG → Prop} (hμ : Nat.ble 1000 μ = false) (hv : Nat.ble (i_ar vs).length (kE.2.2.1 μ) = true)
  (h0 : ∀ (O : Nat → List iv → iF → iG → (Option iv → iF → iG → Prop) → Prop) (J : Bool → Nat → iL → List iv → iF → iG → Prop), (∀ {μ vs f g R}, wq d μ vs f g R → O μ vs f g R) → i_wp (kE.2.2.1 μ) x_nx [] O J Q (kE.2.2.2 μ) 700 0 (kE.2.2.2 μ) (i_ar vs) [] f g) : wq (d + 1) μ vs f g Q :=
  i_meth [] (fun _ _ _ _ _ _ => False) 0 (by omega) hμ hv (fun _ _ _ _ _ _ _ h => h.elim) (fun _ _ O J hO _ => h0 O J hO)
