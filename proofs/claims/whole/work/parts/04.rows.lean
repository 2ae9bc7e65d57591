/-! ===== the plain instructions of the small machine, over the kit's rows ===== -/
/-- how a raw instruction of length len is meant; F: the constants of the class, Gp: the fields that may be written -/
def x_rs (F Gp : Nat → Option Instr) (raw : Instr) (len : Nat) (res : Instr) : Bool :=
  match raw with
  | .iconst v => len == 1 && decide (res = .iconst v)
  | .bipush v => len == 2 && decide (res = .iconst v) && decide ((Int8.ofInt v).toInt32 = Int32.ofInt v)
  | .sipush v => len == 3 && decide (res = .iconst v) && decide ((Int16.ofInt v).toInt32 = Int32.ofInt v)
  | .lconst n => len == 1 && decide (res = .jsr ((n : Nat) : Int))
  | .ldc ix => len == 2 && decide (F ix = some res) && (match res with | .iconst _ => true | .ldc _ => true | _ => false)
  | .ldc_w ix => len == 3 && decide (F ix = some res) && (match res with | .iconst _ => true | _ => false)
  | .ldc2_w ix => len == 3 && decide (F ix = some res) && (match res with | .jsr _ => true | _ => false)
  | .iload_n k => len == 1 && decide (res = .iload (k : Nat))
  | .lload_n k => len == 1 && decide (res = .lload (k : Nat))
  | .aload_n k => len == 1 && decide (res = .aload (k : Nat))
  | .istore_n k => len == 1 && decide (res = .istore (k : Nat))
  | .lstore_n k => len == 1 && decide (res = .lstore (k : Nat))
  | .astore_n k => len == 1 && decide (res = .astore (k : Nat))
  | .iload k => len == 2 && decide (res = .iload k)
  | .lload k => len == 2 && decide (res = .lload k)
  | .aload k => len == 2 && decide (res = .aload k)
  | .istore k => len == 2 && decide (res = .istore k)
  | .lstore k => len == 2 && decide (res = .lstore k)
  | .astore k => len == 2 && decide (res = .astore k)
  | .iinc k n => len == 3 && decide (res = .iinc k n)
  | .getfield ix => len == 3 && decide (F ix = some res) && (match res with | .invokeinterface _ _ => true | _ => false)
  | .putfield ix => len == 3 && decide (Gp ix = some res) && (match res with | .multianewarray _ _ => true | _ => false)
  | .invokespecial ix => len == 3 && decide (F ix = some res) && (match res with | .pop => true | _ => false)
  | .invokestatic ix => len == 3 && decide (F ix = some res) && (match res with | .invokedynamic _ => true | _ => false)
  | .newarray ty => len == 2 && decide (res = .newarray ty)
  | i => len == 1 && decide (res = i) && (match i with
    | .iadd => true | .isub => true | .imul => true | .idiv => true | .irem => true | .iand => true | .ior => true | .ishl => true | .ishr => true | .iushr => true
    | .ladd => true | .lmul => true | .ldiv => true | .land => true | .lor => true | .lshl => true | .lushr => true | .lcmp => true | .i2l => true | .l2i => true | .i2c => true
    | .dup => true | .dup2 => true | .arraylength => true | .iaload => true | .baload => true | .laload => true | .iastore => true | .bastore => true | .lastore => true | _ => false)
/-- what the constants of a class give -/
def x_lk (Ts : List Cond) (own : String) (cl : List vw_C) (sad : Nat → Nat) (s : State) (ix : Nat) (i : Instr) : Prop := match i with
  | .iconst v => Cond.constant own ix (Int32.ofInt v) ∈ Ts
  | .jsr v => Cond.constantLong own ix (Int64.ofInt v) ∈ Ts
  | .ldc j => ∃ tx, vk_R own ix tx (sad j) s
  | .invokeinterface ci k => ∃ (C : String) (T : u_T) (N : Nat), cl[ci]? = some (C, T, N) ∧ k < N ∧ (∀ w ∈ u_ws C T N, w ∈ Ts) ∧ (Cond.fieldLink own ix (T k).1 (T k).2.1 (T k).2.2.1 ∈ Ts ∨ ∃ host, va_Nw (Cond.fieldLinkNest own ix (T k).1 (T k).2.1 (T k).2.2.1 host) s)
  | .pop => Cond.methodLink own ix Lib.objectInit ∈ Ts ∧ Cond.instanceMethod Lib.objectInit ∈ Ts ∧ Cond.code Lib.objectInit ⟨#[0xb1]⟩ 1 none ∈ Ts
  | .invokedynamic 0 => Cond.methodLink own ix Lib.Math.max.name ∈ Ts ∧ Cond.static Lib.Math.max.name ∈ Ts ∧ Cond.initialized "java/lang/Math" ∈ Ts ∧ Cond.code Lib.Math.max.name Lib.Math.max.code 2 (some .int) ∈ Ts
  | .invokedynamic 1 => Cond.methodLink own ix Lib.Math.min.name ∈ Ts ∧ Cond.static Lib.Math.min.name ∈ Ts ∧ Cond.initialized "java/lang/Math" ∈ Ts ∧ Cond.code Lib.Math.min.name Lib.Math.min.code 2 (some .int) ∈ Ts
  | .invokedynamic 2 => Cond.methodLink own ix arraycopyName ∈ Ts ∧ Cond.native arraycopyName ∈ Ts ∧ Cond.static arraycopyName ∈ Ts ∧ Cond.initialized "java/lang/System" ∈ Ts
  | _ => True
/-- a field that may be written: its type; a final one only in a constructor of its own class -/
def x_pk (Ts : List Cond) (own : String) (cl : List vw_C) (s : State) (meth : Method) (ix : Nat) (i : Instr) : Prop := match i with
  | .multianewarray ci k => ∃ (C : String) (T : u_T) (N : Nat) (ty0 : Nat → FieldType), cl[ci]? = some (C, T, N) ∧ x_kk k < N ∧ (∀ w ∈ u_ws C T N, w ∈ Ts) ∧ (∀ k, k < N → parseFieldDescriptor (T k).2.2.1 = some (ty0 k)) ∧ (∀ a, a < N → ∀ b, b < N → a ≠ b → (T a).2.1 ≠ (T b).2.1)
      ∧ ((k < 1000 ∧ ty0 (x_kk k) = FieldType.int) ∨ (1000 ≤ k ∧ k < 2000 ∧ ty0 (x_kk k) = FieldType.boolean) ∨ (2000 ≤ k ∧ ((∃ n, ty0 (x_kk k) = FieldType.object n) ∨ ∃ t, ty0 (x_kk k) = FieldType.array t)))
      ∧ (((Cond.fieldLink own ix (T (x_kk k)).1 (T (x_kk k)).2.1 (T (x_kk k)).2.2.1 ∈ Ts ∨ ∃ host, va_Nw (Cond.fieldLinkNest own ix (T (x_kk k)).1 (T (x_kk k)).2.1 (T (x_kk k)).2.2.1 host) s) ∧ (T (x_kk k)).2.2.2 = false)
        ∨ (Cond.fieldLink own ix (T (x_kk k)).1 (T (x_kk k)).2.1 (T (x_kk k)).2.2.1 ∈ Ts ∧ (T (x_kk k)).2.2.2 = true ∧ meth.name = "<init>" ∧ (T (x_kk k)).1 = own))
  | _ => True
section X4
variable {p : Program} {l : Launch} {e : Env} {R : Room} {s : State} {m : MethodId} {args : Array Value} {below : List Frame} {meth : Method} {c : Code} {Q : State → Prop} {cc : ByteArray} {D : va_G} {cl : List vw_C} {C : FieldType → ClassId} {A : Nat → Prop} {nL n0 z0 : Nat} {sad ad0 : Nat → Nat} {own : String} {Ts : List Cond} {F Gp : Nat → Option Instr} {pc len : Nat} {lv lv' : x_L} {st st' : List Value} {T T' : x_T} {q : Option Value × x_T} {K : x_L → List Value → x_T → x_Z} {raw res : Instr} {XT : x_Xt}
/-- from this place, locals, stack and cells on the machine comes to Q -/
def x_G (p : Program) (l : Launch) (e : Env) (R : Room) (s : State) (m : MethodId) (args : Array Value) (below : List Frame) (meth : Method) (c : Code) (D : va_G) (cl : List vw_C) (C : FieldType → ClassId) (A : Nat → Prop) (nL n0 z0 : Nat) (sad ad0 : Nat → Nat) (Q : State → Prop) (pc : Nat) (lv : x_L) (st : List Value) (T : x_T) : Prop :=
  ∀ (ad : Nat → Nat) (H : Heap) (locs : List Loc) (cells slots : Nat) (ls : Array Slot), (∀ i, i < n0 → ad i = ad0 i) → va_P D cl (x_W ad C T) H → va_D A (x_W ad C T) → va_S A s.heap H locs → x_ls ad sad ls nL lv → cells + n0 = T.1.length → slots + z0 = x_z T.1 → W p l e R s m args below meth c H locs cells slots Q (F0 m pc ls (st.map (x_val ad sad)))
def x_mo (T U : x_T) : Prop := T.1.length ≤ U.1.length ∧ x_z T.1 ≤ x_z U.1
/-- all that a frame's walk knows -/
def x_cx (p : Program) (R : Room) (s : State) (m : MethodId) (args : Array Value) (meth : Method) (c : Code) (cc : ByteArray) (D : va_G) (cl : List vw_C) (C : FieldType → ClassId) (A : Nat → Prop) (nL n0 z0 : Nat) (sad : Nat → Nat) (own : String) (Ts : List Cond) (F Gp : Nat → Option Instr) (XT : x_Xt) (q : Option Value × x_T) : Prop :=
  p.tables.exec = Jvm.exec ∧ c.code = cc ∧ c.maxLocals = nL ∧ s.vm.findClass own = some m.cls ∧ (∀ w ∈ Ts, w.before args s = true) ∧ va_K D cl [(C .int, .int), (C .boolean, .boolean), (C .long, .long)] s ∧ (∀ q, s.heap.size ≤ q → A q) ∧ (∀ ix i, F ix = some i → x_lk Ts own cl sad s ix i) ∧ (∀ ix i, Gp ix = some i → x_pk Ts own cl s meth ix i) ∧ 1 ≤ R.frames ∧ 60 ≤ R.locals ∧ q.2.1.length ≤ n0 + R.cells ∧ x_z q.2.1 ≤ z0 + R.slots ∧ (∀ ty, Cond.arrayClass ty ∈ Ts ∨ (ty ≠ .int ∧ ty ≠ .boolean ∧ ty ≠ .long)) ∧ ∀ j n f, XT j = some (n, f) → va_X (sad j) n f s s.heap ∧ sad j < s.heap.size ∧ ¬ A (sad j)
theorem x_go (g : x_mo T q.2 ∧ x_G p l e R s m args below meth c D cl C A nL n0 z0 sad ad0 Q (pc + len) lv st' T) (h : ∀ (ad : Nat → Nat) (H : Heap) (locs : List Loc) (cells slots : Nat) (ls : Array Slot), va_P D cl (x_W ad C T) H → va_D A (x_W ad C T) → va_S A s.heap H locs → x_ls ad sad ls nL lv → W p l e R s m args below meth c H locs cells slots Q (F0 m (pc + len) ls (st'.map (x_val ad sad))) → W p l e R s m args below meth c H locs cells slots Q (F0 m pc ls (st.map (x_val ad sad)))) : x_mo T q.2 ∧ x_G p l e R s m args below meth c D cl C A nL n0 z0 sad ad0 Q pc lv st T :=
  ⟨g.1, fun ad H locs cells slots ls e1 hP hD hS hl c1 c2 => h ad H locs cells slots ls hP hD hS hl (g.2 ad H locs cells slots ls e1 hP hD hS hl c1 c2)⟩
theorem x_ls_set {ad : Nat → Nat} {ls ls' : Array Slot} {lst : List (Nat × Value)} {i : Nat} {v : Value} (h1 : lv_has ls' nL ((i, x_val ad sad v) :: lst.filter (fun q => !(q.1 == i) && !(q.1 + 1 == i && q.2.category == 2)))) (h2 : lv.length = nL) (h3 : ∀ (j : Nat) (v : Value), lv[j]? = some (some v) → (j, x_val ad sad v) ∈ lst) (hok : x_okp lv i = true) : x_ls ad sad ls' nL (lv.set i (some v)) := by
  refine ⟨_, h1, by rw [List.length_set]; exact h2, fun j v' hj => ?_⟩
  by_cases hji : j = i
  · subst hji
    have hlt : j < lv.length := by
      have := (List.getElem?_eq_some_iff.mp hj).1
      rwa [List.length_set] at this
    rw [List.getElem?_set_self hlt] at hj
    cases hj
    exact List.mem_cons_self
  · rw [List.getElem?_set_ne (Ne.symm hji)] at hj
    refine List.mem_cons_of_mem _ (List.mem_filter.mpr ⟨h3 j v' hj, ?_⟩)
    have hc : ¬ (j + 1 = i ∧ (x_val ad sad v').category = 2) := by
      rintro ⟨rfl, hcat⟩
      simp only [x_okp] at hok
      rw [hj] at hok
      cases v' <;> first | (simp [x_val, Value.category] at hcat; done) | simp_all [x_val, Value.category]
    simp only [Bool.and_eq_true, Bool.not_eq_true', beq_eq_false_iff_ne, ne_eq, Bool.and_eq_false_iff]
    refine ⟨hji, ?_⟩
    by_cases hj1 : j + 1 = i
    · exact Or.inr (fun h => hc ⟨hj1, h⟩)
    · exact Or.inl hj1
end X4
