section X11
variable {l : Launch} {cl : List vw_C} {E : x_E} {X : x_X} {Ts0 : List Cond} {M : x_M} {F Gp : Nat → Nat → Option Instr} {tb : Nat → x_R}
theorem x_vcat (ad sad : Nat → Nat) (v : Value) : (x_val ad sad v).category = v.category := by cases v <;> rfl
theorem x_ar_len (ad sad : Nat → Nat) : ∀ vs : List Value, (lg_sl (vs.map (x_val ad sad))).length = (x_ar vs).length
  | [] => rfl
  | v :: l => by
    have ih := x_ar_len ad sad l
    simp only [lg_sl, List.map_cons, List.flatMap_cons, List.length_append, x_ar, x_vcat] at ih ⊢
    split
    · simp only [List.length_cons, List.length_nil, ih]; omega
    · simp only [List.length_cons, List.length_nil, ih]; omega
theorem x_ar_in (ad sad : Nat → Nat) : ∀ (vs : List Value) (k j : Nat) (v : Value), (x_ar vs)[j]? = some (some v) → (k + j, x_val ad sad v) ∈ lv_args k (vs.map (x_val ad sad))
  | [], k, j, v, h => by simp [x_ar] at h
  | a :: l, k, j, v, h => by
    simp only [x_ar] at h
    simp only [List.map_cons, lv_args, x_vcat]
    split at h
    · rename_i hcat
      match j, h with
      | 0, h => simp at h; subst h; exact List.mem_cons_self
      | 1, h => simp at h
      | j + 2, h =>
        simp at h
        have := x_ar_in ad sad l (k + 2) j v h
        rw [show k + (j + 2) = k + 2 + j by omega]
        refine List.mem_cons_of_mem _ ?_
        simpa [hcat] using this
    · rename_i hcat
      match j, h with
      | 0, h => simp at h; subst h; exact List.mem_cons_self
      | j + 1, h =>
        simp at h
        have := x_ar_in ad sad l (k + 1) j v h
        rw [show k + (j + 1) = k + 1 + j by omega]
        refine List.mem_cons_of_mem _ ?_
        have h1 : a.category = 1 := by rcases lv_cat a with h | h; exact h; exact absurd h hcat
        simpa [hcat, h1] using this
set_option maxHeartbeats 4000000 in
/-- EVERY METHOD: what x_P answers is what the machine does -/
theorem x_P_ok {SO : Nat → List Value → x_T → x_Z} (hok : ∀ μ, μ < 1000 → x_ok cl E X Ts0 M F Gp tb μ) (hSO : ∀ μ vs T q, SO μ vs T = some q → x_mo T q.2 ∧ ∀ d, 8 ≤ d → x_C l cl X Ts0 M (d + 1) μ vs T q) (hgood : ∀ w ∈ Ts0, goodWord w = true) (har : Cond.arrayClass .int ∈ Ts0 ∧ Cond.arrayClass .boolean ∈ Ts0 ∧ Cond.arrayClass .long ∈ Ts0) (k n : Nat) : ∀ (d μ : Nat) (vs : List Value) (T : x_T) (q : Option Value × x_T), x_P E SO k n d μ vs T = some q → x_C l cl X Ts0 M d μ vs T q := by
  intro d
  induction d with
  | zero => intro μ vs T q h; simp [x_P] at h
  | succ d ih =>
    intro μ vs T q h
    have h0 := h
    simp only [x_P] at h
    split at h
    case isTrue hbig =>
      split at h
      · rename_i hd
        exact (hSO _ _ _ _ h).2 d (Nat.le_of_ble_eq_true hd)
      · cases h
    case isFalse hbig =>
    split at h
    case isFalse => cases h
    case isTrue hlen =>
    obtain ⟨hpl, htok, hcode, hloc, hpc0, hF2, hF1, hGp⟩ := hok μ (by rcases Nat.lt_or_ge μ 1000 with h | h; exact h; exact absurd (Nat.ble_eq_true_of_le h) hbig)
    have key : ∀ (ad sad adV : Nat → Nat) (D : va_G) (C : FieldType → ClassId) (p : Program) (e : Env) (s : State) (m : MethodId) (args : Array Value) (below : List Frame) (meth : Method) (c : Code) (s₁ : State), BodyLoose p l (M μ).1 (headSpec (x_ws Ts0 M μ) (x_rm (d + 1) (q.2.1.length - T.1.length) (x_z q.2.1 - x_z T.1))) (M μ).2.1 (M μ).2.2.1 (M μ).2.2.2 e s m args below meth c s₁ → c.maxLocals = (M μ).2.2.1 → va_K D cl (x_tys C) s → x_xs X sad adV (va_A (x_W ad C T) s.heap.size) s →
        x_mo T q.2 ∧ x_G p l e (x_rm (d + 1) (q.2.1.length - T.1.length) (x_z q.2.1 - x_z T.1)) s m args below meth c D cl C (va_A (x_W ad C T) s.heap.size) (M μ).2.2.1 T.1.length (x_z T.1) sad ad (x_Q below args s D cl C (va_A (x_W ad C T) s.heap.size) ad T.1.length (x_z T.1) q) 0 (x_ar vs ++ List.replicate (E.2.2.1 μ - (x_ar vs).length) none) [] T := by
      intro ad sad adV D C p e s m args below meth c s₁ Bd hml hKa hxs
      have hts0 := atoms_spec (ws := x_ws Ts0 M μ) Bd.pre
      have hc : x_cx p (x_rm (d + 1) (q.2.1.length - T.1.length) (x_z q.2.1 - x_z T.1)) s m args meth c (M μ).2.1 D cl C (va_A (x_W ad C T) s.heap.size) (M μ).2.2.1 T.1.length (x_z T.1) sad (M μ).1.cls Ts0 (F μ) (Gp μ) x_nx q := by
        refine ⟨Bd.exec, Bd.bytes, hml, findClass_of_methodNamed Bd.named, fun w hw => hts0 w (List.mem_cons_of_mem _ hw), hKa, fun q hq => Or.inr hq, fun ix i hi => hF1 ix i hi sad s hxs.1, fun ix i hi => hGp ix i hi s meth (name_of_methodNamed Bd.named Bd.method).1, ?_, ?_, ?_, ?_, ?_, fun j n f h => by cases h⟩
        · show 1 ≤ d + 1; omega
        · show 60 ≤ 100 * (d + 1); omega
        · show q.2.1.length ≤ T.1.length + (q.2.1.length - T.1.length); omega
        · show x_z q.2.1 ≤ x_z T.1 + (x_z q.2.1 - x_z T.1); omega
        · intro ty
          by_cases h1 : ty = .int
          · subst h1; exact Or.inl har.1
          · by_cases h2 : ty = .boolean
            · subst h2; exact Or.inl har.2.1
            · by_cases h3 : ty = .long
              · subst h3; exact Or.inl har.2.2
              · exact Or.inr ⟨h1, h2, h3⟩
      have h2 : x_c2 (x_rm (d + 1) (q.2.1.length - T.1.length) (x_z q.2.1 - x_z T.1)) s meth (M μ).2.1 cl (va_A (x_W ad C T) s.heap.size) sad adV (M μ).1.cls Ts0 Ts0 (F μ) (Gp μ) E X M d (M μ).2.2.2 (tb μ) := by
        refine ⟨htok, Bd.returns, Bd.notSynchronized, hF2, hxs, fun μ' hmk w hw => ?_, ?_, ?_⟩
        · have hm : w ∈ Ts0 := by
            rcases List.mem_cons.mp hw with rfl | h
            · exact hmk.1
            · exact h
          exact ⟨hm, good_of_word (hgood w hm)⟩
        · show d + 1 ≤ d + 1; omega
        · show 100 * d + 100 ≤ 100 * (d + 1); omega
      have hB : ∀ (n' j : Nat) (lv : x_L) (T' : x_T), x_lp E x_nx (x_P E SO k n d) (x_cd (tb μ)) k n' j lv T' = some q → x_mo T' q.2 ∧ x_G p l e (x_rm (d + 1) (q.2.1.length - T.1.length) (x_z q.2.1 - x_z T.1)) s m args below meth c D cl C (va_A (x_W ad C T) s.heap.size) (M μ).2.2.1 T.1.length (x_z T.1) sad ad (x_Q below args s D cl C (va_A (x_W ad C T) s.heap.size) ad T.1.length (x_z T.1) q) (x_pc (tb μ) j) lv [] T' := by
        intro n'
        induction n' with
        | zero => intro j lv T' h; simp [x_lp] at h
        | succ n' ihn =>
          intro j lv T' h
          simp only [x_lp] at h
          exact x_ev_ok hc h2 ih ihn k j lv [] T' h
      rw [hcode] at h
      have hres := x_ev_ok hc h2 ih (hB n) k 0 _ [] T (by rw [List.drop_zero]; exact h)
      rwa [hpc0] at hres
    refine ⟨?_, fun ad sad adV D C sz => ?_⟩
    · exact x_P_mo (fun _ _ _ _ h => (hSO _ _ _ _ h).1) k n (d + 1) μ vs T q h0
    · refine Met.ofW (cc := (M μ).2.1) (maxL := (M μ).2.2.1) (ret := (M μ).2.2.2) hpl rfl ?_
      intro p e s m args below meth c s₁ Bd hml hv
      obtain ⟨rfl, hsz, hP, hKa, hD0, hxs⟩ := hv
      subst hsz
      have hg := (key ad sad adV D C p e s m _ below meth c s₁ Bd hml hKa hxs).2
      have hl := lv_entry (vs.map (x_val ad sad)) (n := (M μ).2.2.1) (by rw [x_ar_len]; omega)
      rw [lg_entry_eq]
      refine hg ad s.heap [] 0 0 _ (fun _ _ => rfl) hP (hD0.self) va_S.rf ⟨_, hl, by rw [List.length_append, List.length_replicate]; omega, fun j v hj => ?_⟩ (Nat.zero_add _) (Nat.zero_add _)
      have hj2 : (x_ar vs)[j]? = some (some v) := by
        rcases Nat.lt_or_ge j (x_ar vs).length with h1 | h1
        · rwa [List.getElem?_append_left h1] at hj
        · rw [List.getElem?_append_right h1, List.getElem?_replicate] at hj
          split at hj
          · cases hj
          · cases hj
      have := x_ar_in ad sad vs 0 j v hj2
      rwa [Nat.zero_add] at this
end X11
