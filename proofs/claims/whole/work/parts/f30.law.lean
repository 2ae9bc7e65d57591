/-! ===== the law's start: classes, arrays, texts ===== -/
theorem y_inst : ∀ q ∈ kCL, Cond.instantiable q.1.1 q.1.2.2 ∈ lw_tbl := by decide +kernel
theorem y_ac : ∀ ty ∈ ([.int, .boolean, .long] : List FieldType), Cond.arrayClass ty ∈ lw_tbl := by decide +kernel
theorem y_K {args : Array Value} {s : State} (hts : ∀ w ∈ lw_tbl, w.before args s = true) : ∃ (D : va_G) (C : FieldType → ClassId), va_K D (x_cl kCL) (x_tys C) s := by
  have h1 : ∀ ci : Nat, ∃ q : ClassId × (Nat → Nat), ∀ r : vw_C, (x_cl kCL)[ci]? = some r → u_Kn s r.1 r.2.1 r.2.2 q.1 q.2 := by
    intro ci
    cases hr : (x_cl kCL)[ci]? with
    | none => exact ⟨(0, fun _ => 0), fun r h => by cases h⟩
    | some r =>
      have hm : ∃ ty, (r, ty) ∈ kCL := by
        simp only [x_cl, List.getElem?_map, Option.map_eq_some_iff] at hr
        obtain ⟨q, hq, e⟩ := hr
        exact ⟨q.2, by rw [← e]; exact List.mem_of_getElem? hq⟩
      obtain ⟨ty, hm⟩ := hm
      have hin : ∀ w ∈ u_ws r.1 r.2.1 r.2.2, w ∈ lw_tbl := fun w hw => (k_wB w (List.mem_flatMap.mpr ⟨_, hm, hw⟩)).1
      obtain ⟨cC, iS, hK⟩ := u_known hts hin (hts _ (y_inst _ hm))
      exact ⟨(cC, iS), fun r' h => by cases h; exact hK⟩
  obtain ⟨f, hf⟩ := Classical.axiomOfChoice h1
  have h2 : ∀ ty : FieldType, ∃ cA : ClassId, ty ∈ ([.int, .boolean, .long] : List FieldType) → ArrOfT s cA ty ∧ va_RA s cA ty := by
    intro ty
    by_cases h : ty ∈ ([.int, .boolean, .long] : List FieldType)
    · obtain ⟨cA, kA, comp, hfind, hk, hkind⟩ := Cond.arrayClass_spec (hts _ (y_ac ty h))
      refine ⟨cA, fun _ => ⟨fun n z => ⟨fun k h => (by cases h), kA, hk, comp, hkind⟩, ?_⟩⟩
      simp only [List.mem_cons, List.not_mem_nil, or_false] at h
      rcases h with rfl | rfl | rfl
      · exact hfind
      · exact hfind
      · exact hfind
    · exact ⟨0, fun h' => absurd h' h⟩
  obtain ⟨C, hC⟩ := Classical.axiomOfChoice h2
  refine ⟨(fun ci => (f ci).1, fun ci => (f ci).2), C, fun ci r h => hf ci r h, fun k q hk => ?_⟩
  match k, hk with
  | 0, hk => cases hk; exact hC .int (by decide)
  | 1, hk => cases hk; exact hC .boolean (by decide)
  | 2, hk => cases hk; exact hC .long (by decide)
  | k + 3, hk => simp at hk
/-- the texts' terms -/
def y_tm (i : Nat) : Term := .string (kX.1.getD i ("", 0, "", 0)).1 (kX.1.getD i ("", 0, "", 0)).2.1
theorem y_t0 : (∀ r ∈ kX.1, Cond.stringRef r.1 r.2.1 r.2.2.1 ∈ lw_tbl) ∧ (∀ r ∈ kX.2.2.2.2.1, Cond.methodLinkNest r.1 r.2.1 r.2.2.1 r.2.2.2 ∈ lw_tbl) ∧ kX.1.map (fun r => r.2.2.2) = [0, 1] ∧ kX.2.1 = 2 := by decide +kernel
theorem y_t1 : ∀ i : Nat, i < 2 → Cond.exactly (y_tm i) "java/lang/String" ∈ flatC (Jvm.Cond.and given_1 narrow_1) ∧ Cond.eq (.field (y_tm i) "java/lang/String" "coder" "B") (.int 0) ∈ flatC (Jvm.Cond.and given_1 narrow_1) ∧ Cond.arrayOf (.field (y_tm i) "java/lang/String" "value" "[B") .byte ∈ flatC (Jvm.Cond.and given_1 narrow_1) ∧ Cond.eq (.length (.field (y_tm i) "java/lang/String" "value" "[B")) (.int (Int32.ofNat (kX.2.2.1.getD i 0))) ∈ flatC (Jvm.Cond.and given_1 narrow_1) ∧ kX.2.2.1.getD i 0 < 2 ^ 31 := by decide +kernel
theorem y_t2 : ∀ i : Nat, i < 2 → ∀ j : Nat, j < kX.2.2.1.getD i 0 → Cond.eq (.elem (.field (y_tm i) "java/lang/String" "value" "[B") (.int (Int32.ofNat j))) (.int ((kX.2.2.2.1.getD i []).getD j 0)) ∈ flatC (Jvm.Cond.and given_1 narrow_1) := by decide +kernel
theorem y_t3 : Cond.not (Cond.eq (y_tm 0) (y_tm 1)) ∈ flatC (Jvm.Cond.and given_1 narrow_1) ∨ Cond.not (Cond.eq (y_tm 1) (y_tm 0)) ∈ flatC (Jvm.Cond.and given_1 narrow_1) := by decide +kernel
theorem y_t4 : Cond.eq (.static "java/lang/String" "COMPACT_STRINGS" "Z") (.int 1) ∈ flatC (Jvm.Cond.and given_1 narrow_1) ∧ Cond.isRef (.static "jdk/internal/util/Preconditions" "SIOOBE_FORMATTER" "Ljava/util/function/BiFunction;") ∈ flatC (Jvm.Cond.and given_1 narrow_1) ∧ Cond.laysStatic "java/lang/String" "COMPACT_STRINGS" "Z" ∈ lw_tbl ∧ Cond.initialized "java/lang/String" ∈ lw_tbl ∧ Cond.laysStatic "jdk/internal/util/Preconditions" "SIOOBE_FORMATTER" "Ljava/util/function/BiFunction;" ∈ lw_tbl ∧ Cond.initialized "jdk/internal/util/Preconditions" ∈ lw_tbl := by decide +kernel
theorem y_isRef {args : Array Value} {s : State} {t : Term} (h : (Cond.isRef t).before args s = true) : t.eval args s none [] s = some .null ∨ ∃ a : Nat, t.eval args s none [] s = some (.ref a) := by
  cases hv : t.eval args s none [] s with
  | none => simp [Cond.before, Cond.holds, Cond.value, hv] at h
  | some w => cases w <;> simp_all [Cond.before, Cond.holds, Cond.value]
theorem y_xs {args : Array Value} {s : State} {b : Nat} (hts : ∀ w ∈ lw_tbl, w.before args s = true) (hgv : (Jvm.Cond.and given_1 narrow_1).before args s = true) : ∃ sad adV : Nat → Nat, sad 2 = b ∧ x_xs kX sad adV (fun q => s.heap.size ≤ q) s := by
  have hs := flat_of_before _ hgv
  have hA : ∀ a : Nat, a < s.heap.size → ¬ (fun q : Nat => s.heap.size ≤ q) a := fun a h => Nat.not_le.mpr h
  obtain ⟨adK, adV, hS, hE⟩ := vk_Sof (N := 2) (tm := y_tm) (len := kX.2.2.1) (byt := kX.2.2.2.1) (A := fun q => s.heap.size ≤ q) (fun i hi => (y_t1 i hi).2.2.2.2) (fun i hi => hs _ (y_t1 i hi).1) (fun i hi => hs _ (y_t1 i hi).2.1) (fun i hi => hs _ (y_t1 i hi).2.2.1) (fun i hi => hs _ (y_t1 i hi).2.2.2.1) (fun i hi j hj => hs _ (y_t2 i hi j hj)) (fun i j hi hj hij => by
    rcases (by omega : (i = 0 ∧ j = 1) ∨ (i = 1 ∧ j = 0)) with ⟨rfl, rfl⟩ | ⟨rfl, rfl⟩
    · rcases y_t3 with h | h
      · exact Or.inl (hs _ h)
      · exact Or.inr (hs _ h)
    · rcases y_t3 with h | h
      · exact Or.inr (hs _ h)
      · exact Or.inl (hs _ h)) hA
  refine ⟨fun j => if j = 2 then b else adK j, adV, rfl, ?_, ?_, ?_, ?_⟩
  · intro r hr
    obtain ⟨i, hi⟩ := List.getElem?_of_mem hr
    have hlen : kX.1.length = 2 := by decide +kernel
    have hi2 : i < 2 := by rw [← hlen]; exact (List.getElem?_eq_some_iff.mp hi).1
    have hno : r.2.2.2 = i := by
      have h1 := congrArg (fun l => l[i]?) y_t0.2.2.1
      simp only [List.getElem?_map, hi, Option.map_some] at h1
      rcases (by omega : i = 0 ∨ i = 1) with rfl | rfl
      · simpa using h1
      · simpa using h1
    rw [hno]
    have hsad : (if i = 2 then b else adK i) = adK i := by rw [if_neg (by omega)]
    show vk_R r.1 r.2.1 r.2.2.1 (if i = 2 then b else adK i) s
    rw [hsad]
    refine vk_R.of (hts _ (y_t0.1 r hr)) ?_
    have h2 := hE i hi2
    have h3 : kX.1.getD i ("", 0, "", 0) = r := by rw [List.getD, hi]; rfl
    rw [y_tm, h3] at h2
    exact h2
  · rw [y_t0.2.2.2]
    have hsad : ∀ i, i < 2 → (if i = 2 then b else adK i) = adK i := fun i hi => by rw [if_neg (by omega)]
    refine ⟨fun i hi => ?_, fun i j hi hj e => ?_⟩
    · simp only [hsad i hi]
      exact hS.1 i hi
    · simp only [hsad i hi, hsad j hj] at e
      exact hS.2 i j hi hj e
  · intro r hr
    exact va_Nw.of rfl (hts _ (y_t0.2.1 r hr))
  · intro r hr
    have hk : kX.2.2.2.2.2 = [("java/lang/String", "COMPACT_STRINGS", "Z", .int 1), ("jdk/internal/util/Preconditions", "SIOOBE_FORMATTER", "Ljava/util/function/BiFunction;", .null)] := rfl
    rw [hk] at hr
    simp only [List.mem_cons, List.not_mem_nil, or_false] at hr
    rcases hr with rfl | rfl
    · exact Or.inr (va_Zof (hts _ y_t4.2.2.1) (hts _ y_t4.2.2.2.1) (va_eqi (hs _ y_t4.1)) hA)
    · refine Or.inl ⟨rfl, ?_⟩
      rcases y_isRef (hs _ y_t4.2.1) with h | ⟨t, h⟩
      · exact Or.inl (va_Zof (hts _ y_t4.2.2.2.2.1) (hts _ y_t4.2.2.2.2.2) h hA)
      · exact Or.inr ⟨t, va_Zref (hts _ y_t4.2.2.2.2.1) (hts _ y_t4.2.2.2.2.2) h hA⟩
