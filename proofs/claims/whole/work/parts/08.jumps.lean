/-! ===== jumps, returns, calls ===== -/
abbrev x_tys (C : FieldType → ClassId) : List (ClassId × FieldType) := [(C .int, .int), (C .boolean, .boolean), (C .long, .long)]
/-- a method: its name, code, how many locals, what it returns -/
abbrev x_M : Type := Nat → MethodName × ByteArray × Nat × Option FieldType
/-- the texts: (class, number of its constant, text, number), how many, their lengths and bytes; the links between nest mates; static fields that are only read -/
abbrev x_X : Type := List (String × Nat × String × Nat) × Nat × List Nat × List (List Int32) × List (String × Nat × MethodName × String) × List (String × String × String × Value)
/-- a static field: an int, or a reference that may be null -/
def x_zs (r : String × String × String × Value) (A : Nat → Prop) (U : State) (H : Heap) : Prop := (r.2.2.2 = .null ∧ va_Zq r.1 r.2.1 r.2.2.1 A U H) ∨ va_Z r.1 r.2.1 r.2.2.1 r.2.2.2 A U H
theorem x_zs.moved {r : String × String × String × Value} {A : Nat → Prop} {u U : State} {H : Heap} (hvm : u.vm.Alike U.vm) (h : x_zs r A u H) : x_zs r A U H := h.elim (fun h => Or.inl ⟨h.1, h.2.elim (fun h => Or.inl (va_Z.moved hvm h)) (fun ⟨t, h⟩ => Or.inr ⟨t, va_Z.moved hvm h⟩)⟩) (fun h => Or.inr (va_Z.moved hvm h))
theorem x_zs.kept {r : String × String × String × Value} {A : Nat → Prop} {U : State} {H H1 : Heap} (h : x_zs r A U H) (hq : ∀ a : Nat, a < H.size → ¬ A a → H1[a]? = H[a]?) : x_zs r A U H1 := h.elim (fun h => Or.inl ⟨h.1, h.2.elim (fun h => Or.inl (va_Z.kept h hq)) (fun ⟨t, h⟩ => Or.inr ⟨t, va_Z.kept h hq⟩)⟩) (fun h => Or.inr (va_Z.kept h hq))
theorem x_zs.narrow {r : String × String × String × Value} {A B : Nat → Prop} {U : State} {H : Heap} (h : x_zs r A U H) (hAB : ∀ q, B q → A q) : x_zs r B U H := h.elim (fun h => Or.inl ⟨h.1, h.2.elim (fun h => Or.inl (va_Z.narrow h hAB)) (fun ⟨t, h⟩ => Or.inr ⟨t, va_Z.narrow h hAB⟩)⟩) (fun h => Or.inr (va_Z.narrow h hAB))
/-- what is known of a state beside its cells: texts and links -/
def x_xs (X : x_X) (sad adV : Nat → Nat) (A : Nat → Prop) (U : State) : Prop := (∀ r ∈ X.1, vk_R r.1 r.2.1 r.2.2.1 (sad r.2.2.2) U) ∧ vk_S X.2.1 X.2.2.1 X.2.2.2.1 sad adV A U U.heap ∧ (∀ r ∈ X.2.2.2.2.1, va_Nw (.methodLinkNest r.1 r.2.1 r.2.2.1 r.2.2.2) U) ∧ ∀ r ∈ X.2.2.2.2.2, x_zs r A U U.heap
def x_ws (Ts : List Cond) (M : x_M) (μ : Nat) : List Cond := .code (M μ).1 (M μ).2.1 (M μ).2.2.1 (M μ).2.2.2 :: Ts
def x_rm (d mc ms : Nat) : Room := { frames := d, cells := mc, slots := ms, locals := 100 * d }
def x_B (D : va_G) (cl : List vw_C) (C : FieldType → ClassId) (A : Nat → Prop) (T : x_T) (ad : Nat → Nat) (t : State) : Prop := va_P D cl (x_W ad C T) t.heap ∧ va_K D cl (x_tys C) t ∧ va_D A (x_W ad C T)
def x_post (D : va_G) (cl : List vw_C) (C : FieldType → ClassId) (A : Nat → Prop) (ad : Nat → Nat) (n : Nat) (q : Option Value × x_T) : Array Value → State → Outcome → State → Prop := match q.1 with
  | none => va_Qv (fun ad' : Nat → Nat => ∀ i, i < n → ad' i = ad i) (x_B D cl C A q.2) A
  | some (.int r) => va_Qi (fun r' (ad' : Nat → Nat) => r' = r ∧ ∀ i, i < n → ad' i = ad i) (x_B D cl C A q.2) A
  | some (.long r) => va_Ql (fun r' (ad' : Nat → Nat) => r' = r ∧ ∀ i, i < n → ad' i = ad i) (x_B D cl C A q.2) A
  | _ => fun _ _ _ _ => False
def x_pre (D : va_G) (cl : List vw_C) (C : FieldType → ClassId) (X : x_X) (ad sad adV : Nat → Nat) (T : x_T) (sz : Nat) (U : State) : Prop := U.heap.size = sz ∧ va_P D cl (x_W ad C T) U.heap ∧ va_K D cl (x_tys C) U ∧ va_D (fun _ => True) (x_W ad C T) ∧ x_xs X sad adV (va_A (x_W ad C T) sz) U
/-- the method's contract: it returns q.1 and leaves the cells q.2 -/
def x_C (l : Launch) (cl : List vw_C) (X : x_X) (Ts : List Cond) (M : x_M) (d μ : Nat) (vs : List Value) (T : x_T) (q : Option Value × x_T) : Prop := x_mo T q.2 ∧
  ∀ (ad sad adV : Nat → Nat) (D : va_G) (C : FieldType → ClassId) (sz : Nat), Met l (M μ).1 (x_ws Ts M μ) (x_rm d (q.2.1.length - T.1.length) (x_z q.2.1 - x_z T.1)) (va_Pc (vs.map (x_val ad sad)) (x_pre D cl C X ad sad adV T sz)) (x_post D cl C (va_A (x_W ad C T) sz) ad T.1.length q) (q.2.1.length - T.1.length) (x_z q.2.1 - x_z T.1) (va_A (x_W ad C T) sz)
/-- the classes' fields by their types -/
def x_df (ty0 : Nat → FieldType) (fs : List (Option Nat)) (N : Nat) : Prop := fs.length = N ∧ ∀ j, j < N → (fs[j]? = some none ∧ (ty0 j = .int ∨ ty0 j = .boolean)) ∨ (fs[j]? = some (some 0) ∧ ((∃ n, ty0 j = FieldType.object n) ∨ ∃ t, ty0 j = FieldType.array t))
/-- what is known of a method that is called -/
def x_mk (Ts : List Cond) (E : x_E) (M : x_M) (μ : Nat) : Prop := Cond.code (M μ).1 (M μ).2.1 (M μ).2.2.1 (M μ).2.2.2 ∈ Ts ∧ Cond.initialized (M μ).1.cls ∈ Ts ∧ ((M μ).1.cls ≠ "java/lang/invoke/MethodHandle" ∧ (M μ).1.cls ≠ "java/lang/invoke/VarHandle" ∧ (parseMethodDescriptor (M μ).1.desc).map (fun d => d.parameters.length) = some (E.2.1 μ).1) ∧ (M μ).2.2.1 ≤ 80
/-- what the constants of a class give: makings and calls -/
def x_l2 (Ts : List Cond) (E : x_E) (M : x_M) (X : x_X) (own : String) (cl : List vw_C) (ix : Nat) (i : Instr) : Prop := match i with
  | .new ci => ∃ (C : String) (T : u_T) (N : Nat) (ty0 : Nat → FieldType), cl[ci]? = some (C, T, N) ∧ (∀ w ∈ u_ws C T N, w ∈ Ts) ∧ (∀ k, k < N → parseFieldDescriptor (T k).2.2.1 = some (ty0 k)) ∧ Cond.classLink own ix C ∈ Ts ∧ Cond.instantiable C N ∈ Ts ∧ Cond.initialized C ∈ Ts ∧ x_df ty0 (E.1 ci) N
  | .invokevirtual μ => x_mk Ts E M μ ∧ (Cond.methodLink own ix (M μ).1 ∈ Ts ∨ ∃ host, (own, ix, (M μ).1, host) ∈ X.2.2.2.2.1) ∧ Cond.instanceMethod (M μ).1 ∈ Ts ∧ Cond.selects (M μ).1.cls (M μ).1 (M μ).1 ∈ Ts ∧ ∃ (T : u_T) (N : Nat), cl[(E.2.1 μ).2]? = some ((M μ).1.cls, T, N)
  | .invokestatic μ => x_mk Ts E M μ ∧ (Cond.methodLink own ix (M μ).1 ∈ Ts ∨ ∃ host, (own, ix, (M μ).1, host) ∈ X.2.2.2.2.1) ∧ Cond.static (M μ).1 ∈ Ts
  | .invokespecial μ => x_mk Ts E M μ ∧ (Cond.methodLink own ix (M μ).1 ∈ Ts ∨ ∃ host, (own, ix, (M μ).1, host) ∈ X.2.2.2.2.1) ∧ Cond.instanceMethod (M μ).1 ∈ Ts ∧ (M μ).1.name = "<init>" ∧ (M μ).2.2.2 = none
  | .checkcast μ => x_mk Ts E M μ ∧ Cond.methodLink own ix (M μ).1 ∈ Ts ∧ Cond.instanceMethod (M μ).1 ∈ Ts ∧ Cond.selects (M μ).1.cls (M μ).1 (M μ).1 ∈ Ts ∧ (M μ).1.cls = "java/lang/String" ∧ 2 ≤ X.2.1
  | _ => True
/-- the target of a jump: ahead as it is, back as its negSucc -/
def x_tg : Int → Nat
  | .ofNat j => j
  | .negSucc j => j
/-- how a row of a method's table is meant: (place, raw, length, resolved) -/
def x_rv (F Gp : Nat → Option Instr) (ret : Option FieldType) (pcs : Nat → Nat) (pc : Nat) (raw : Instr) (len : Nat) (res : Instr) : Bool := match res with
  | .goto t => (match raw with | .goto off => len == 3 && decide ((pc : Int) + off = ((pcs t.toNat : Nat) : Int)) | _ => false)
  | .jsr_w t => (match raw with | .goto off => len == 3 && decide ((pc : Int) + off = ((pcs t.toNat : Nat) : Int)) | _ => false)
  | .ifCond c t => (match raw with | .ifCond c' off => len == 3 && decide (c = c') && decide ((pc : Int) + off = ((pcs (x_tg t) : Nat) : Int)) | _ => false)
  | .if_icmp c t => (match raw with | .if_icmp c' off => len == 3 && decide (c = c') && decide ((pc : Int) + off = ((pcs (x_tg t) : Nat) : Int)) | _ => false)
  | .tableswitch d lo _ offs => (match raw with | .tableswitch d' lo' hi' offs' => decide (lo = lo') && decide ((pc : Int) + d' = ((pcs d.toNat : Nat) : Int)) && decide (hi' + 1 = lo + (offs.toList.length : Int)) && decide (offs'.toList.map (fun o => (pc : Int) + o) = offs.toList.map (fun t => ((pcs t.toNat : Nat) : Int))) | _ => false)
  | .lookupswitch d ps => (match raw with | .lookupswitch d' ps' => decide ((pc : Int) + d' = ((pcs d.toNat : Nat) : Int)) && decide (ps'.toList.map (fun q => (q.1, (pc : Int) + q.2)) = ps.toList.map (fun q => (q.1, ((pcs q.2.toNat : Nat) : Int)))) && (ps'.toList.zip (ps'.toList.drop 1)).all (fun (a, next) => a.1 < next.1) | _ => false)
  | .return_ => decide (raw = .return_) && len == 1 && decide (ret = none)
  | .ireturn => decide (raw = .ireturn) && len == 1 && decide (ret = some .int)
  | .areturn => decide (raw = .ireturn) && len == 1 && decide (ret = some .boolean)
  | .lreturn => decide (raw = .lreturn) && len == 1 && decide (ret = some .long)
  | .new ci => (match raw with | .new ix => len == 3 && decide (F ix = some (.new ci)) | _ => false)
  | .invokevirtual μ => (match raw with | .invokevirtual ix => len == 3 && decide (F ix = some (.invokevirtual μ)) | _ => false)
  | .checkcast μ => (match raw with | .invokevirtual ix => len == 3 && decide (F ix = some (.checkcast μ)) | _ => false)
  | .invokespecial μ => (match raw with | .invokespecial ix => len == 3 && decide (F ix = some (.invokespecial μ)) | _ => false)
  | .invokestatic μ => (match raw with | .invokestatic ix => len == 3 && decide (F ix = some (.invokestatic μ)) | _ => false)
  | _ => x_rs F Gp raw len res
abbrev x_R : Type := List (Nat × Instr × Nat × Instr)
def x_pc (tab : x_R) (j : Nat) : Nat := (tab.map (fun r => r.1)).getD j 0
def x_cd (tab : x_R) : List Instr := tab.map (fun r => r.2.2.2)
/-- a method's table is right -/
def x_tok (cc : ByteArray) (F Gp : Nat → Option Instr) (ret : Option FieldType) (tab : x_R) : Prop := ∀ (j pc : Nat) (raw : Instr) (len : Nat) (res : Instr), tab[j]? = some (pc, raw, len, res) → decode cc pc = .ok (raw, len) ∧ x_rv F Gp ret (x_pc tab) pc raw len res = true ∧ (j + 1 < tab.length → x_pc tab (j + 1) = pc + len)
section X8
variable {p : Program} {l : Launch} {e : Env} {R : Room} {s : State} {m : MethodId} {args : Array Value} {below : List Frame} {meth : Method} {c : Code} {Q : State → Prop} {cc : ByteArray} {D : va_G} {cl : List vw_C} {C : FieldType → ClassId} {A : Nat → Prop} {nL n0 z0 : Nat} {sad ad0 : Nat → Nat} {own : String} {Ts : List Cond} {F Gp : Nat → Option Instr} {pc len : Nat} {lv lv' : x_L} {st st' : List Value} {T T' : x_T} {q : Option Value × x_T} {K : x_L → List Value → x_T → x_Z} {raw res : Instr} {XT : x_Xt} {E : x_E} {O : Nat → List Value → x_T → x_Z} {B : Nat → x_L → x_T → x_Z} {tab : x_R} {X : x_X} {M : x_M} {adV : Nat → Nat} {d j : Nat} {ret : Option FieldType}
theorem x_cd_at {i : Instr} {rest : List Instr} (h : (x_cd tab).drop j = i :: rest) : ∃ (pc : Nat) (raw : Instr) (len : Nat), tab[j]? = some (pc, raw, len, i) ∧ rest = (x_cd tab).drop (j + 1) ∧ x_pc tab j = pc := by
  have hlt : j < (x_cd tab).length := by
    rcases Nat.lt_or_ge j (x_cd tab).length with h1 | h1
    · exact h1
    · rw [List.drop_eq_nil_of_le h1] at h; cases h
  have h2 := List.drop_eq_getElem_cons hlt
  rw [h2] at h
  injection h with h3 h4
  have hlt2 : j < tab.length := by simpa [x_cd] using hlt
  refine ⟨tab[j].1, tab[j].2.1, tab[j].2.2.1, ?_, h4.symm, ?_⟩
  · rw [List.getElem?_eq_getElem hlt2, ← h3]
    simp [x_cd]
  · simp [x_pc, List.getD, hlt2]
theorem x_drop_lt {i : Instr} {rest : List Instr} (h : (x_cd tab).drop j = i :: rest) : j < tab.length := by
  rcases Nat.lt_or_ge j (x_cd tab).length with h1 | h1
  · simpa [x_cd] using h1
  · rw [List.drop_eq_nil_of_le h1] at h; cases h
theorem x_jmp {t : Nat} (g : x_mo T q.2 ∧ x_G p l e R s m args below meth c D cl C A nL n0 z0 sad ad0 Q t lv st' T) (h : ∀ (ad : Nat → Nat) (H : Heap) (locs : List Loc) (cells slots : Nat) (ls : Array Slot), W p l e R s m args below meth c H locs cells slots Q (F0 m t ls (st'.map (x_val ad sad))) → W p l e R s m args below meth c H locs cells slots Q (F0 m pc ls (st.map (x_val ad sad)))) : x_mo T q.2 ∧ x_G p l e R s m args below meth c D cl C A nL n0 z0 sad ad0 Q pc lv st T :=
  ⟨g.1, fun ad H locs cells slots ls e1 hP hD hS hl c1 c2 => h ad H locs cells slots ls (g.2 ad H locs cells slots ls e1 hP hD hS hl c1 c2)⟩
theorem x_o_ifc {cd : ClassFile.Cond} {off : Int} {t : Nat} {x : Int32} (hc : x_cx p R s m args meth c cc D cl C A nL n0 z0 sad own Ts F Gp XT q) (hdg : decode cc pc = .ok (.ifCond cd off, 3)) (ht : (pc : Int) + off = (t : Int)) (gt : x_cmp cd x 0 = true → x_mo T q.2 ∧ x_G p l e R s m args below meth c D cl C A nL n0 z0 sad ad0 Q t lv st T) (gf : x_cmp cd x 0 = false → x_mo T q.2 ∧ x_G p l e R s m args below meth c D cl C A nL n0 z0 sad ad0 Q (pc + 3) lv st T) : x_mo T q.2 ∧ x_G p l e R s m args below meth c D cl C A nL n0 z0 sad ad0 Q pc lv (.int x :: st) T := by
  obtain ⟨hx, hb, hml, hown, hts, hKa, hA, hF, hG, hfr, hlo, hce, hsl, har, hXT⟩ := id hc
  have hmo : x_mo T q.2 := by
    cases hcm : x_cmp cd x 0 with
    | true => exact (gt hcm).1
    | false => exact (gf hcm).1
  refine ⟨hmo, fun ad H locs cells slots ls e1 hP hD hS hl c1 c2 => ?_⟩
  cases cd with
  | eq =>
    refine lv_if_eq hx hb hdg ht (fun hh => ?_) (fun hh => ?_)
    · exact (gt (by simp [x_cmp, hh])).2 ad H locs cells slots ls e1 hP hD hS hl c1 c2
    · exact (gf (by simpa [x_cmp] using hh)).2 ad H locs cells slots ls e1 hP hD hS hl c1 c2
  | ne =>
    refine lv_if_ne hx hb hdg ht (fun hh => ?_) (fun hh => ?_)
    · exact (gt (by simp [x_cmp, hh])).2 ad H locs cells slots ls e1 hP hD hS hl c1 c2
    · exact (gf (by simpa [x_cmp] using hh)).2 ad H locs cells slots ls e1 hP hD hS hl c1 c2
  | lt =>
    refine lv_if_lt hx hb hdg ht (fun hh => ?_) (fun hh => ?_)
    · exact (gt (by simp [x_cmp, hh])).2 ad H locs cells slots ls e1 hP hD hS hl c1 c2
    · exact (gf (by simpa [x_cmp] using hh)).2 ad H locs cells slots ls e1 hP hD hS hl c1 c2
  | ge =>
    refine lv_if_ge hx hb hdg ht (fun hh => ?_) (fun hh => ?_)
    · exact (gt (by simp [x_cmp, hh])).2 ad H locs cells slots ls e1 hP hD hS hl c1 c2
    · exact (gf (by simpa [x_cmp] using hh)).2 ad H locs cells slots ls e1 hP hD hS hl c1 c2
  | gt =>
    refine lv_if_gt hx hb hdg ht (fun hh => ?_) (fun hh => ?_)
    · exact (gt (by simp [x_cmp, hh])).2 ad H locs cells slots ls e1 hP hD hS hl c1 c2
    · exact (gf (by simpa [x_cmp] using hh)).2 ad H locs cells slots ls e1 hP hD hS hl c1 c2
  | le =>
    refine lv_if_le hx hb hdg ht (fun hh => ?_) (fun hh => ?_)
    · exact (gt (by simp [x_cmp, hh])).2 ad H locs cells slots ls e1 hP hD hS hl c1 c2
    · exact (gf (by simpa [x_cmp] using hh)).2 ad H locs cells slots ls e1 hP hD hS hl c1 c2
theorem x_o_icm {cd : ClassFile.Cond} {off : Int} {t : Nat} {x y : Int32} (hc : x_cx p R s m args meth c cc D cl C A nL n0 z0 sad own Ts F Gp XT q) (hdg : decode cc pc = .ok (.if_icmp cd off, 3)) (ht : (pc : Int) + off = (t : Int)) (gt : x_cmp cd x y = true → x_mo T q.2 ∧ x_G p l e R s m args below meth c D cl C A nL n0 z0 sad ad0 Q t lv st T) (gf : x_cmp cd x y = false → x_mo T q.2 ∧ x_G p l e R s m args below meth c D cl C A nL n0 z0 sad ad0 Q (pc + 3) lv st T) : x_mo T q.2 ∧ x_G p l e R s m args below meth c D cl C A nL n0 z0 sad ad0 Q pc lv (.int y :: .int x :: st) T := by
  obtain ⟨hx, hb, hml, hown, hts, hKa, hA, hF, hG, hfr, hlo, hce, hsl, har, hXT⟩ := id hc
  have hmo : x_mo T q.2 := by
    cases hcm : x_cmp cd x y with
    | true => exact (gt hcm).1
    | false => exact (gf hcm).1
  refine ⟨hmo, fun ad H locs cells slots ls e1 hP hD hS hl c1 c2 => ?_⟩
  cases cd with
  | eq =>
    refine lv_icmp_eq hx hb hdg ht (fun hh => ?_) (fun hh => ?_)
    · exact (gt (by simp [x_cmp, hh])).2 ad H locs cells slots ls e1 hP hD hS hl c1 c2
    · exact (gf (by simpa [x_cmp] using hh)).2 ad H locs cells slots ls e1 hP hD hS hl c1 c2
  | ne =>
    refine lv_icmp_ne hx hb hdg ht (fun hh => ?_) (fun hh => ?_)
    · exact (gt (by simp [x_cmp, hh])).2 ad H locs cells slots ls e1 hP hD hS hl c1 c2
    · exact (gf (by simpa [x_cmp] using hh)).2 ad H locs cells slots ls e1 hP hD hS hl c1 c2
  | lt =>
    refine lv_icmp_lt hx hb hdg ht (fun hh => ?_) (fun hh => ?_)
    · exact (gt (by simp [x_cmp, hh])).2 ad H locs cells slots ls e1 hP hD hS hl c1 c2
    · exact (gf (by simpa [x_cmp] using hh)).2 ad H locs cells slots ls e1 hP hD hS hl c1 c2
  | ge =>
    refine lv_icmp_ge hx hb hdg ht (fun hh => ?_) (fun hh => ?_)
    · exact (gt (by simp [x_cmp, hh])).2 ad H locs cells slots ls e1 hP hD hS hl c1 c2
    · exact (gf (by simpa [x_cmp] using hh)).2 ad H locs cells slots ls e1 hP hD hS hl c1 c2
  | gt =>
    refine lv_icmp_gt hx hb hdg ht (fun hh => ?_) (fun hh => ?_)
    · exact (gt (by simp [x_cmp, hh])).2 ad H locs cells slots ls e1 hP hD hS hl c1 c2
    · exact (gf (by simpa [x_cmp] using hh)).2 ad H locs cells slots ls e1 hP hD hS hl c1 c2
  | le =>
    refine lv_icmp_le hx hb hdg ht (fun hh => ?_) (fun hh => ?_)
    · exact (gt (by simp [x_cmp, hh])).2 ad H locs cells slots ls e1 hP hD hS hl c1 c2
    · exact (gf (by simpa [x_cmp] using hh)).2 ad H locs cells slots ls e1 hP hD hS hl c1 c2
end X8
