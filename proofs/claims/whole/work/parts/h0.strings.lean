/-! ===== texts' own methods: what the machine does ===== -/
section JX
variable {p : Program} {l : Launch} {e : Env} {R : Room} {s : State} {m : MethodId} {args : Array Value} {below : List Frame} {meth : Method} {c : Code} {Q : State → Prop} {cc : ByteArray} {D : va_G} {C : FieldType → ClassId} {A : Nat → Prop} {nL n0 z0 : Nat} {sad ad0 adV : Nat → Nat} {own : String} {F : Nat → Option Instr} {pc len : Nat} {lv lv' : x_L} {st st' : List Value} {T T' : x_T} {q : Option Value × x_T} {raw : Instr} {d : Nat} {ret : Option FieldType}
def j_np : Nat → Option Instr := fun _ => none
/-- all that a walk of a text's method knows; the bytes of text j are written retAddr (j + 2) -/
def j_cx (p : Program) (R : Room) (s : State) (m : MethodId) (args : Array Value) (meth : Method) (c : Code) (cc : ByteArray) (D : va_G) (C : FieldType → ClassId) (A : Nat → Prop) (nL n0 z0 : Nat) (sad adV : Nat → Nat) (own : String) (F : Nat → Option Instr) (d : Nat) (ret : Option FieldType) (q : Option Value × x_T) : Prop :=
  x_cx p R s m args meth c cc D (x_cl kCL) C A nL n0 z0 sad own kTs F j_np x_nx q ∧ x_xs kX sad adV A s ∧ meth.sig.returnType = ret ∧ meth.locks = false ∧ (∀ j, j < 2 → sad (j + 2) = adV j) ∧ d + 1 ≤ R.frames ∧ 100 * d + 100 ≤ R.locals
/-- from here on the machine comes to Q -/
abbrev j_G (p : Program) (l : Launch) (e : Env) (R : Room) (s : State) (m : MethodId) (args : Array Value) (below : List Frame) (meth : Method) (c : Code) (D : va_G) (C : FieldType → ClassId) (A : Nat → Prop) (nL n0 z0 : Nat) (sad ad0 : Nat → Nat) (Q : State → Prop) (q : Option Value × x_T) (pc : Nat) (lv : x_L) (st : List Value) (T : x_T) : Prop := x_mo T q.2 ∧ x_G p l e R s m args below meth c D (x_cl kCL) C A nL n0 z0 sad ad0 Q pc lv st T
noncomputable def j_K (lv' : x_L) (st' : List Value) (T' : x_T) (q : Option Value × x_T) : x_L → List Value → x_T → x_Z := fun a b c => @ite _ (a = lv' ∧ b = st' ∧ c = T') (Classical.propDecidable _) (some q) none
/-- a plain instruction -/
theorem j_1 (res : Instr) (hc : j_cx p R s m args meth c cc D C A nL n0 z0 sad adV own F d ret q) (hdg : decode cc pc = .ok (raw, len)) (hrs : x_rs F j_np raw len res = true) (hs : ∀ K : x_L → List Value → x_T → x_Z, x_s1 x_nx res lv st T K = K lv' st' T') (g : j_G p l e R s m args below meth c D C A nL n0 z0 sad ad0 Q q (pc + len) lv' st' T') : j_G p l e R s m args below meth c D C A nL n0 z0 sad ad0 Q q pc lv st T := by
  refine x_s1_ok (K := j_K lv' st' T' q) hc.1 hdg hrs (fun a b c h => ?_) ?_
  · unfold j_K at h
    split at h
    · rename_i hh
      obtain ⟨rfl, rfl, rfl⟩ := hh
      exact g
    · cases h
  · rw [hs]
    unfold j_K
    rw [if_pos ⟨rfl, rfl, rfl⟩]
theorem j_goto {off : Int} {t : Nat} (hc : j_cx p R s m args meth c cc D C A nL n0 z0 sad adV own F d ret q) (hdg : decode cc pc = .ok (.goto off, 3)) (ht : (pc : Int) + off = (t : Int)) (g : j_G p l e R s m args below meth c D C A nL n0 z0 sad ad0 Q q t lv st T) : j_G p l e R s m args below meth c D C A nL n0 z0 sad ad0 Q q pc lv st T :=
  x_jmp g (fun ad H locs cells slots ls g => lv_goto hc.1.1 hc.1.2.1 hdg ht g)
theorem j_i2b {x : Int32} (hc : j_cx p R s m args meth c cc D C A nL n0 z0 sad adV own F d ret q) (hdg : decode cc pc = .ok (.i2b, 1)) (g : j_G p l e R s m args below meth c D C A nL n0 z0 sad ad0 Q q (pc + 1) lv (.int x.toInt8.toInt32 :: st) T) : j_G p l e R s m args below meth c D C A nL n0 z0 sad ad0 Q q pc lv (.int x :: st) T :=
  x_go g (fun ad H locs cells slots ls hP hD hS hl g => lv_i2b hc.1.1 hc.1.2.1 hdg rfl g)
theorem j_pop {x : Int32} (hc : j_cx p R s m args meth c cc D C A nL n0 z0 sad adV own F d ret q) (hdg : decode cc pc = .ok (.pop, 1)) (g : j_G p l e R s m args below meth c D C A nL n0 z0 sad ad0 Q q (pc + 1) lv st T) : j_G p l e R s m args below meth c D C A nL n0 z0 sad ad0 Q q pc lv (.int x :: st) T :=
  x_go g (fun ad H locs cells slots ls hP hD hS hl g => lv_pop hc.1.1 hc.1.2.1 hdg rfl g)
/-- a text's bytes -/
theorem j_val {j : Nat} (hj : j < 2) (hc : j_cx p R s m args meth c cc D C A nL n0 z0 sad adV RJ0 F d ret q) (hdg : decode cc pc = .ok (.getfield 9, 3)) (g : j_G p l e R s m args below meth c D C A nL n0 z0 sad ad0 Q q (pc + 3) lv (.retAddr (j + 2) :: st) T) : j_G p l e R s m args below meth c D C A nL n0 z0 sad ad0 Q q pc lv (.retAddr j :: st) T := by
  obtain ⟨hcx, hxs, -, -, hsd, -, -⟩ := hc
  obtain ⟨hx, hb, hml, hown, hts, hKa, hA, hF, hG, hfr, hlo, hce, hsl, har, hXT⟩ := id hcx
  refine x_go g (fun ad H locs cells slots ls hP hD hS hl g => ?_)
  simp only [List.map_cons, x_val, hsd j hj] at g
  exact vk_getf hx hb (hxs.2.1.1 j hj).2.2.1 hS hown (hts _ (List.mem_append_right _ (List.mem_append_right _ (List.mem_of_getElem? (i := 4) rfl)))) (fun x h => h) hdg g
/-- a text's coder -/
theorem j_cod {j : Nat} (hj : j < 2) (hc : j_cx p R s m args meth c cc D C A nL n0 z0 sad adV RJ0 F d ret q) (hdg : decode cc pc = .ok (.getfield 15, 3)) (g : j_G p l e R s m args below meth c D C A nL n0 z0 sad ad0 Q q (pc + 3) lv (.int 0 :: st) T) : j_G p l e R s m args below meth c D C A nL n0 z0 sad ad0 Q q pc lv (.retAddr j :: st) T := by
  obtain ⟨hcx, hxs, -, -, hsd, -, -⟩ := hc
  obtain ⟨hx, hb, hml, hown, hts, hKa, hA, hF, hG, hfr, hlo, hce, hsl, har, hXT⟩ := id hcx
  refine x_go g (fun ad H locs cells slots ls hP hD hS hl g => ?_)
  exact vk_getf hx hb (hxs.2.1.1 j hj).2.1 hS hown (hts _ (List.mem_append_right _ (List.mem_append_right _ (List.mem_of_getElem? (i := 6) rfl)))) (fun x h => h) hdg g
/-- texts are compact -/
theorem j_com (hc : j_cx p R s m args meth c cc D C A nL n0 z0 sad adV RJ0 F d ret q) (hdg : decode cc pc = .ok (.getstatic 38, 3)) (g : j_G p l e R s m args below meth c D C A nL n0 z0 sad ad0 Q q (pc + 3) lv (.int 1 :: st) T) : j_G p l e R s m args below meth c D C A nL n0 z0 sad ad0 Q q pc lv st T := by
  obtain ⟨hcx, hxs, -, -, hsd, -, -⟩ := hc
  obtain ⟨hx, hb, hml, hown, hts, hKa, hA, hF, hG, hfr, hlo, hce, hsl, har, hXT⟩ := id hcx
  refine x_go g (fun ad H locs cells slots ls hP hD hS hl g => ?_)
  have hz : va_Z "java/lang/String" "COMPACT_STRINGS" "Z" (.int 1) A s s.heap := by
    rcases hxs.2.2.2 ("java/lang/String", "COMPACT_STRINGS", "Z", .int 1) (by simp [kX]) with h | h
    · cases h.1
    · exact h
  exact va_gets hx hb hz hS hown (hts _ (List.mem_append_right _ (List.mem_append_right _ (List.mem_of_getElem? (i := 5) rfl)))) (fun x h => h) hdg g
/-- how many bytes -/
theorem j_len {j : Nat} (hj : j < 2) (hc : j_cx p R s m args meth c cc D C A nL n0 z0 sad adV own F d ret q) (hdg : decode cc pc = .ok (.arraylength, 1)) (g : j_G p l e R s m args below meth c D C A nL n0 z0 sad ad0 Q q (pc + 1) lv (.int (Int32.ofNat (kX.2.2.1.getD j 0)) :: st) T) : j_G p l e R s m args below meth c D C A nL n0 z0 sad ad0 Q q pc lv (.retAddr (j + 2) :: st) T := by
  obtain ⟨hcx, hxs, -, -, hsd, -, -⟩ := hc
  obtain ⟨hx, hb, hml, hown, hts, hKa, hA, hF, hG, hfr, hlo, hce, hsl, har, hXT⟩ := id hcx
  refine x_go g (fun ad H locs cells slots ls hP hD hS hl g => ?_)
  simp only [List.map_cons, x_val, hsd j hj]
  exact va_tlen hx hb (hxs.2.1.1 j hj).2.2.2 hS rfl hdg g
/-- a byte -/
theorem j_bal {j : Nat} {i : Int32} (hj : j < 2) (hin : x_in i (kX.2.2.1.getD j 0) = true) (hc : j_cx p R s m args meth c cc D C A nL n0 z0 sad adV own F d ret q) (hdg : decode cc pc = .ok (.baload, 1)) (g : j_G p l e R s m args below meth c D C A nL n0 z0 sad ad0 Q q (pc + 1) lv (.int ((kX.2.2.2.1.getD j []).getD i.toNatClampNeg 0) :: st) T) : j_G p l e R s m args below meth c D C A nL n0 z0 sad ad0 Q q pc lv (.int i :: .retAddr (j + 2) :: st) T := by
  obtain ⟨hcx, hxs, -, -, hsd, -, -⟩ := hc
  obtain ⟨hx, hb, hml, hown, hts, hKa, hA, hF, hG, hfr, hlo, hce, hsl, har, hXT⟩ := id hcx
  refine x_go g (fun ad H locs cells slots ls hP hD hS hl g => ?_)
  simp only [List.map_cons, x_val, hsd j hj]
  exact va_tb hx hb (hxs.2.1.1 j hj).2.2.2 hS (x_in_vp hin) rfl hdg g
/-- ireturn, of any kind of int -/
theorem j_ret {v : Int32} {ty : FieldType} (hc : j_cx p R s m args meth c cc D C A nL n0 z0 sad adV own F d (some ty) (some (.int v), T)) (hn : narrow ty (.int v) = .int v) (hdg : decode cc pc = .ok (.ireturn, 1)) : j_G p l e R s m args below meth c D C A nL n0 z0 sad ad0 (x_Q below args s D (x_cl kCL) C A ad0 n0 z0 (some (.int v), T)) (some (.int v), T) pc lv [.int v] T := by
  obtain ⟨hcx, hxs, hr, hlk, hsd, -, -⟩ := hc
  obtain ⟨hx, hb, hml, hown, hts, hKa, hA, hF, hG, hfr, hlo, hce, hsl, har, hXT⟩ := id hcx
  refine ⟨⟨Nat.le_refl _, Nat.le_refl _⟩, fun ad H locs cells slots ls e1 hP hD hS hl c1 c2 => ?_⟩
  obtain rfl : cells = T.1.length - n0 := by omega
  obtain rfl : slots = x_z T.1 - z0 := by omega
  refine W.zret hx hb hr hn ?_ hS.2.2 hdg hlk
  intro t ht hw
  exact ⟨⟨v, ad, rfl, ⟨rfl, e1⟩, ⟨by rw [ht]; exact hP, va_K.moved hw.alike hKa, hD⟩⟩, hS.F ht⟩
/-- the contract of a text's inner method: it answers r and leaves all as it is -/
def j_C (l : Launch) (d : Nat) (y : MethodName) (bytes : ByteArray) (maxL : Nat) (ret : Option FieldType) (vs : List Value) (r : Option Value) : Prop :=
  ∀ (T : x_T) (ad sad adV : Nat → Nat) (D : va_G) (C : FieldType → ClassId) (sz : Nat), (∀ j, j < 2 → sad (j + 2) = adV j) → Met l y (.code y bytes maxL ret :: kTs) (x_rm d (T.1.length - T.1.length) (x_z T.1 - x_z T.1)) (va_Pc (vs.map (x_val ad sad)) (x_pre D (x_cl kCL) C kX ad sad adV T sz)) (x_post D (x_cl kCL) C (va_A (x_W ad C T) sz) ad T.1.length (r, T)) (T.1.length - T.1.length) (x_z T.1 - x_z T.1) (va_A (x_W ad C T) sz)
theorem j_meth {y : MethodName} {bytes : ByteArray} {maxL : Nat} {vs : List Value} {r : Option Value} (F : Nat → Option Instr) (hpl : plainName y.cls = true) (hlen : (x_ar vs).length ≤ maxL) (hF : ∀ ix i, F ix = some i → ∀ (sad : Nat → Nat) (s : State), x_lk kTs y.cls (x_cl kCL) sad s ix i)
    (walk : ∀ (p : Program) (e : Env) (R : Room) (s : State) (m : MethodId) (args : Array Value) (below : List Frame) (meth : Method) (c : Code) (D : va_G) (C : FieldType → ClassId) (A : Nat → Prop) (n0 z0 : Nat) (sad adV ad0 : Nat → Nat) (T : x_T), T.1.length = n0 → x_z T.1 = z0 → j_cx p R s m args meth c bytes D C A maxL n0 z0 sad adV y.cls F d ret (r, T) → j_G p l e R s m args below meth c D C A maxL n0 z0 sad ad0 (x_Q below args s D (x_cl kCL) C A ad0 n0 z0 (r, T)) (r, T) 0 (x_ar vs ++ List.replicate (maxL - (x_ar vs).length) none) [] T) : j_C l (d + 1) y bytes maxL ret vs r := by
  intro T ad sad adV D C sz hsd
  refine Met.ofW (cc := bytes) (maxL := maxL) (ret := ret) hpl rfl ?_
  intro p e s m args below meth c s₁ Bd hml hv
  obtain ⟨rfl, hsz, hP, hKa, hD0, hxs⟩ := hv
  subst hsz
  have hts0 := atoms_spec (ws := .code y bytes maxL ret :: kTs) Bd.pre
  have hc : x_cx p (x_rm (d + 1) (T.1.length - T.1.length) (x_z T.1 - x_z T.1)) s m (vs.map (x_val ad sad)).toArray meth c bytes D (x_cl kCL) C (va_A (x_W ad C T) s.heap.size) maxL T.1.length (x_z T.1) sad y.cls kTs F j_np x_nx (r, T) := by
    refine ⟨Bd.exec, Bd.bytes, hml, findClass_of_methodNamed Bd.named, fun w hw => hts0 w (List.mem_cons_of_mem _ hw), hKa, fun q hq => Or.inr hq, fun ix i hi => hF ix i hi sad s, fun ix i hi => by cases hi, ?_, ?_, ?_, ?_, ?_, fun j n f h => by cases h⟩
    · show 1 ≤ d + 1; omega
    · show 60 ≤ 100 * (d + 1); omega
    · show T.1.length ≤ T.1.length + (T.1.length - T.1.length); omega
    · show x_z T.1 ≤ x_z T.1 + (x_z T.1 - x_z T.1); omega
    · intro ty
      by_cases h1 : ty = .int
      · subst h1; exact Or.inl (List.mem_append_left _ (by simp [kTa, x_all]))
      · by_cases h2 : ty = .boolean
        · subst h2; exact Or.inl (List.mem_append_left _ (by simp [kTa, x_all]))
        · by_cases h3 : ty = .long
          · subst h3; exact Or.inl (List.mem_append_left _ (by simp [kTa, x_all]))
          · exact Or.inr ⟨h1, h2, h3⟩
  have hg := (walk p e (x_rm (d + 1) (T.1.length - T.1.length) (x_z T.1 - x_z T.1)) s m (vs.map (x_val ad sad)).toArray below meth c D C _ _ _ sad adV ad T rfl rfl ⟨hc, hxs, Bd.returns, Bd.notSynchronized, hsd, Nat.le_refl _, by show 100 * d + 100 ≤ 100 * (d + 1); omega⟩).2
  have hl := lv_entry (vs.map (x_val ad sad)) (n := maxL) (by rw [x_ar_len]; omega)
  rw [lg_entry_eq]
  refine hg ad s.heap [] 0 0 _ (fun _ _ => rfl) hP (hD0.self) va_S.rf ⟨_, hl, by rw [List.length_append, List.length_replicate]; omega, fun j v hj => ?_⟩ (Nat.zero_add _) (Nat.zero_add _)
  have hj2 : (x_ar vs)[j]? = some (some v) := by
    rcases Nat.lt_or_ge j (x_ar vs).length with h1 | h1
    · rwa [List.getElem?_append_left h1] at hj
    · rw [List.getElem?_append_right h1, List.getElem?_replicate] at hj
      split at hj
      · cases hj
      · cases hj
  have := x_ar_in ad sad vs 0 j v hj2
  rwa [Nat.zero_add] at this
set_option maxHeartbeats 1000000 in
/-- behind a call of an inner method -/
theorem j_backW {v : Option Value} {r stv : List Value} {a : Array Value} {ad : Nat → Nat} {H : Heap} {locs : List Loc} {cells slots : Nat} {ls : Array Slot} (hc : x_cx p R s m args meth c cc D (x_cl kCL) C A nL n0 z0 sad own kTs F j_np x_nx q) (hv : v = none ∨ ∃ x, v = some (.int x)) (k4 : x_okl T.1.length lv = true) (k5 : x_oks T.1.length r = true) (e1 : ∀ i, i < n0 → ad i = ad0 i) (hP : va_P D (x_cl kCL) (x_W ad C T) H) (hD : va_D A (x_W ad C T)) (hS : va_S A s.heap H locs) (hl : x_ls ad sad ls nL lv) (c1 : cells + n0 = T.1.length) (c2 : slots + z0 = x_z T.1)
    (hr : va_Run p l e R s m args below meth c H locs cells slots (T.1.length - T.1.length) (x_z T.1 - x_z T.1) (F0 m pc ls stv) (r.map (x_val ad sad)) (x_post D (x_cl kCL) C (va_A (x_W ad C T) H.size) ad T.1.length (v, T) a) (va_A (x_W ad C T) H.size))
    (g : x_G p l e R s m args below meth c D (x_cl kCL) C A nL n0 z0 sad ad0 Q (pc + 3) lv (v.toList ++ r) T) : W p l e R s m args below meth c H locs cells slots Q (F0 m pc ls stv) := by
  obtain ⟨hx, hb, hml, hown, hts, hKa, hA, hF, hG, hfr, hlo, hce, hsl, har, hXT⟩ := id hc
  have hsub := x_A_sub (C := C) hA hD hS
  have go : ∀ (ad' : Nat → Nat) (t : State) (H1 : Heap) (locs1 : List Loc), t.heap = H1 → (∀ i, i < T.1.length → ad' i = ad i) → x_B D (x_cl kCL) C (va_A (x_W ad C T) H.size) T ad' t → va_S A s.heap H1 locs1 → W p l e R s m args below meth c H1 locs1 (cells + (T.1.length - T.1.length)) (slots + (x_z T.1 - x_z T.1)) Q (F0 m (pc + 3) ls ((v.toList ++ r).map (x_val ad' sad))) := by
    intro ad' t H1 locs1 ht hex hB hS1
    obtain ⟨b1, b2, b3⟩ := hB
    rw [ht] at b1
    exact g ad' H1 locs1 _ _ ls (fun i hi => by rw [hex i (by omega)]; exact e1 i hi) b1 (b3.weaken (fun _ _ _ h => hsub _ h)) hS1 (x_ls_ex hex k4 hl) (by omega) (by omega)
  rcases hv with rfl | ⟨x, rfl⟩
  · refine va_callv (a := a) hr hS (fun q _ h => hsub q h) hsub (fun ad' t H1 locs1 ht hvm hw hB hz1 hk1 hS1 => ?_)
    have hgo := go ad' t H1 locs1 ht hw hB hS1
    simp only [Option.toList_none, List.nil_append] at hgo
    rw [x_st_ex hw k5] at hgo
    exact hgo
  · refine va_calli (a := a) hr hS (fun q _ h => hsub q h) hsub (fun x' ad' t H1 locs1 ht hvm hw hB hz1 hk1 hS1 => ?_)
    obtain ⟨rfl, hw⟩ := hw
    have hgo := go ad' t H1 locs1 ht hw hB hS1
    simp only [Option.toList_some, List.cons_append, List.nil_append, List.map_cons, x_val] at hgo
    rw [x_st_ex hw k5] at hgo
    exact hgo
theorem j_good {y : MethodName} {bytes : ByteArray} {maxL : Nat} {ret : Option FieldType} (m1 : Cond.code y bytes maxL ret ∈ kTs) : GoodIn kTs (.code y bytes maxL ret :: kTs) := by
  intro w hw
  have hm : w ∈ kTs := by
    rcases List.mem_cons.mp hw with rfl | h
    · exact m1
    · exact h
  exact ⟨hm, good_of_word ((k_words w hm).2)⟩
/-- what is known of a method that is called -/
def j_mk (y : MethodName) (bytes : ByteArray) (maxL : Nat) (ret : Option FieldType) (n : Nat) : Prop := Cond.code y bytes maxL ret ∈ kTs ∧ Cond.initialized y.cls ∈ kTs ∧ (y.cls ≠ "java/lang/invoke/MethodHandle" ∧ y.cls ≠ "java/lang/invoke/VarHandle" ∧ (parseMethodDescriptor y.desc).map (fun d => d.parameters.length) = some n) ∧ maxL ≤ 80
set_option maxHeartbeats 1000000 in
theorem j_callS {ix : Nat} {y : MethodName} {bytes : ByteArray} {maxL : Nat} {ret2 : Option FieldType} {As r : List Value} {v : Option Value} (hC : j_C l d y bytes maxL ret2 As v) (hv : v = none ∨ ∃ x, v = some (.int x)) (hc : j_cx p R s m args meth c cc D C A nL n0 z0 sad adV own F d ret q) (hdg : decode cc pc = .ok (.invokestatic ix, 3)) (hmk : j_mk y bytes maxL ret2 As.length) (hlink : Cond.methodLink own ix y ∈ kTs) (hstat : Cond.static y ∈ kTs) (hsm : x_sm r ≤ 8) (k4 : x_okl T.1.length lv = true) (k5 : x_oks T.1.length r = true) (g : j_G p l e R s m args below meth c D C A nL n0 z0 sad ad0 Q q (pc + 3) lv (v.toList ++ r) T) : j_G p l e R s m args below meth c D C A nL n0 z0 sad ad0 Q q pc lv (As.reverse ++ r) T := by
  obtain ⟨hcx, hxs, hrt, hlk, hsd, hR1, hR2⟩ := hc
  obtain ⟨hx, hb, hml, hown, hts, hKa, hA, hF, hG, hfr, hlo, hce, hsl, har, hXT⟩ := id hcx
  obtain ⟨m1, m2, m3, m4⟩ := hmk
  refine ⟨g.1, fun ad H locs cells slots ls e1 hP hD hS hl c1 c2 => ?_⟩
  have hlsz : ls.size = nL := by obtain ⟨lst, hl1, hl2, hl3⟩ := hl; exact hl1.1
  have hM := hC T ad sad adV D C H.size hsd
  have hst : (As.reverse ++ r).map (x_val ad sad) = (As.map (x_val ad sad)).reverse ++ r.map (x_val ad sad) := by simp
  rw [hst]
  have hmo := g.1
  unfold x_mo at hmo
  refine j_backW (a := (As.map (x_val ad sad)).toArray) hcx hv k4 k5 e1 hP hD hS hl c1 c2 ?_ g.2
  exact va_runS (nL := nL) (As := As.map (x_val ad sad)) (rest := r.map (x_val ad sad)) (n := As.length) ⟨hx, hb, hml, hown, hts⟩ hM ⟨(callB_of (bytes := bytes) (maxL := maxL) (ret := ret2) (ws' := kTs) _ hts (j_good m1) rfl rfl rfl (hts _ m2) (hts _ hlink) m3 ⟨hR1, by show 8 + (_ + 11) + 100 * d ≤ _; omega⟩), hts _ hstat⟩ ⟨x_blind, fun U hU hW => ⟨by simp, x_pre_call hKa hxs hA hP hD hS hU hW⟩⟩ rfl (by rw [List.length_map]) hlsz rfl (lv_room (by rw [x_sm_val (sad := sad) ad]; exact hsm)) hdg ⟨by omega, by omega⟩
set_option maxHeartbeats 1000000 in
theorem j_callV {ix b : Nat} {y : MethodName} {bytes : ByteArray} {maxL : Nat} {ret2 : Option FieldType} {As r : List Value} {v : Option Value} (hC : j_C l d y bytes maxL ret2 (.retAddr b :: As) v) (hb2 : b < 2) (hv : v = none ∨ ∃ x, v = some (.int x)) (hc : j_cx p R s m args meth c cc D C A nL n0 z0 sad adV own F d ret q) (hdg : decode cc pc = .ok (.invokevirtual ix, 3)) (hmk : j_mk y bytes maxL ret2 As.length) (hcls : y.cls = "java/lang/String") (hlink : Cond.methodLink own ix y ∈ kTs) (hinst : Cond.instanceMethod y ∈ kTs) (hsel : Cond.selects y.cls y y ∈ kTs) (hsm : x_sm r ≤ 8) (k4 : x_okl T.1.length lv = true) (k5 : x_oks T.1.length r = true) (g : j_G p l e R s m args below meth c D C A nL n0 z0 sad ad0 Q q (pc + 3) lv (v.toList ++ r) T) : j_G p l e R s m args below meth c D C A nL n0 z0 sad ad0 Q q pc lv (As.reverse ++ .retAddr b :: r) T := by
  obtain ⟨hcx, hxs, hrt, hlk, hsd, hR1, hR2⟩ := hc
  obtain ⟨hx, hb, hml, hown, hts, hKa, hA, hF, hG, hfr, hlo, hce, hsl, har, hXT⟩ := id hcx
  obtain ⟨m1, m2, m3, m4⟩ := hmk
  refine ⟨g.1, fun ad H locs cells slots ls e1 hP hD hS hl c1 c2 => ?_⟩
  have hlsz : ls.size = nL := by obtain ⟨lst, hl1, hl2, hl3⟩ := hl; exact hl1.1
  have hM := hC T ad sad adV D C H.size hsd
  have hst : (As.reverse ++ .retAddr b :: r).map (x_val ad sad) = (As.map (x_val ad sad)).reverse ++ .ref (sad b) :: r.map (x_val ad sad) := by simp [x_val]
  rw [hst]
  have hrec : ∃ cellB : Cell, H[sad b]? = some cellB ∧ cellB.vm.isStatics = false ∧ s.vm.findClass y.cls = some cellB.cls := by
    obtain ⟨cell, e1, e2, e3, e4⟩ := ((vk_S.kept hxs.2.1 (fun a ha hn => hS.2.1 a ha hn)).1 b hb2).1
    exact ⟨cell, e1, e2, by rw [hcls]; exact e3⟩
  have hmo := g.1
  unfold x_mo at hmo
  refine j_backW (a := ((.retAddr b :: As).map (x_val ad sad)).toArray) hcx hv k4 k5 e1 hP hD hS hl c1 c2 ?_ g.2
  exact va_runV (nL := nL) (As := As.map (x_val ad sad)) (rest := r.map (x_val ad sad)) (n := As.length) ⟨hx, hb, hml, hown, hts⟩ hM ⟨(callB_of (bytes := bytes) (maxL := maxL) (ret := ret2) (ws' := kTs) _ hts (j_good m1) rfl rfl rfl (hts _ m2) (hts _ hlink) m3 ⟨hR1, by show 8 + (_ + 11) + 100 * d ≤ _; omega⟩), hts _ hinst, hts _ hsel⟩ ⟨x_blind, hrec, fun U hU hW => ⟨by simp [x_val], x_pre_call hKa hxs hA hP hD hS hU hW⟩⟩ rfl (by rw [List.length_map]) hlsz rfl (lv_room (by rw [x_sm_val (sad := sad) ad]; exact hsm)) hdg ⟨by omega, by omega⟩
end JX
theorem k_so {l : Launch} : ∀ (μ : Nat) (vs : List Value) (T : x_T) (q : Option Value × x_T), kSO μ vs T = some q → x_mo T q.2 ∧ ∀ d, 8 ≤ d → x_C l (x_cl kCL) kX kTs (x_Mf kML) (d + 1) μ vs T q := sorry
