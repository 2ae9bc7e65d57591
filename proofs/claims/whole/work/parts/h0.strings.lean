/-! ===== texts' own methods: what the machine does ===== -/
section JX
variable {p : Program} {l : Launch} {e : Env} {R : Room} {s : State} {m : MethodId} {args : Array Value} {below : List Frame} {meth : Method} {c : Code} {Q : State → Prop} {cc : ByteArray} {D : va_G} {C : FieldType → ClassId} {A : Nat → Prop} {nL n0 z0 : Nat} {sad ad0 adV : Nat → Nat} {own : String} {F : Nat → Option Instr} {pc len : Nat} {lv lv' : x_L} {st st' : List Value} {T T' : x_T} {q : Option Value × x_T} {raw : Instr} {d : Nat} {ret : Option FieldType}
def jt_np : Nat → Option Instr := fun _ => none
/-- all that a walk of a text's method knows; the bytes of text j are written retAddr (j + 2) -/
def jt_cx (p : Program) (R : Room) (s : State) (m : MethodId) (args : Array Value) (meth : Method) (c : Code) (cc : ByteArray) (D : va_G) (C : FieldType → ClassId) (A : Nat → Prop) (nL n0 z0 : Nat) (sad adV : Nat → Nat) (own : String) (F : Nat → Option Instr) (d : Nat) (ret : Option FieldType) (q : Option Value × x_T) : Prop :=
  x_cx p R s m args meth c cc D (x_cl kCL) C A nL n0 z0 sad own kTs F jt_np x_nx q ∧ x_xs kX sad adV A s ∧ meth.sig.returnType = ret ∧ meth.locks = false ∧ (∀ j, j < 2 → sad (j + 2) = adV j) ∧ d + 1 ≤ R.frames ∧ 100 * d + 100 ≤ R.locals
/-- from here on the machine comes to Q -/
abbrev jt_G (p : Program) (l : Launch) (e : Env) (R : Room) (s : State) (m : MethodId) (args : Array Value) (below : List Frame) (meth : Method) (c : Code) (D : va_G) (C : FieldType → ClassId) (A : Nat → Prop) (nL n0 z0 : Nat) (sad ad0 : Nat → Nat) (Q : State → Prop) (q : Option Value × x_T) (pc : Nat) (lv : x_L) (st : List Value) (T : x_T) : Prop := x_mo T q.2 ∧ x_G p l e R s m args below meth c D (x_cl kCL) C A nL n0 z0 sad ad0 Q pc lv st T
noncomputable def jt_K (lv' : x_L) (st' : List Value) (T' : x_T) (q : Option Value × x_T) : x_L → List Value → x_T → x_Z := fun a b c => @ite _ (a = lv' ∧ b = st' ∧ c = T') (Classical.propDecidable _) (some q) none
/-- a plain instruction -/
theorem jt_1 (res : Instr) (hc : jt_cx p R s m args meth c cc D C A nL n0 z0 sad adV own F d ret q) (hdg : decode cc pc = .ok (raw, len)) (hrs : x_rs F jt_np raw len res = true) (hs : ∀ K : x_L → List Value → x_T → x_Z, x_s1 x_nx res lv st T K = K lv' st' T') (g : jt_G p l e R s m args below meth c D C A nL n0 z0 sad ad0 Q q (pc + len) lv' st' T') : jt_G p l e R s m args below meth c D C A nL n0 z0 sad ad0 Q q pc lv st T := by
  refine x_s1_ok (K := jt_K lv' st' T' q) hc.1 hdg hrs (fun a b c h => ?_) ?_
  · unfold jt_K at h
    split at h
    · rename_i hh
      obtain ⟨rfl, rfl, rfl⟩ := hh
      exact g
    · cases h
  · rw [hs]
    unfold jt_K
    rw [if_pos ⟨rfl, rfl, rfl⟩]
theorem jt_goto {off : Int} {t : Nat} (hc : jt_cx p R s m args meth c cc D C A nL n0 z0 sad adV own F d ret q) (hdg : decode cc pc = .ok (.goto off, 3)) (ht : (pc : Int) + off = (t : Int)) (g : jt_G p l e R s m args below meth c D C A nL n0 z0 sad ad0 Q q t lv st T) : jt_G p l e R s m args below meth c D C A nL n0 z0 sad ad0 Q q pc lv st T :=
  x_jmp g (fun ad H locs cells slots ls g => lv_goto hc.1.1 hc.1.2.1 hdg ht g)
theorem jt_i2b {x : Int32} (hc : jt_cx p R s m args meth c cc D C A nL n0 z0 sad adV own F d ret q) (hdg : decode cc pc = .ok (.i2b, 1)) (g : jt_G p l e R s m args below meth c D C A nL n0 z0 sad ad0 Q q (pc + 1) lv (.int x.toInt8.toInt32 :: st) T) : jt_G p l e R s m args below meth c D C A nL n0 z0 sad ad0 Q q pc lv (.int x :: st) T :=
  x_go g (fun ad H locs cells slots ls hP hD hS hl g => lv_i2b hc.1.1 hc.1.2.1 hdg rfl g)
theorem jt_pop {x : Int32} (hc : jt_cx p R s m args meth c cc D C A nL n0 z0 sad adV own F d ret q) (hdg : decode cc pc = .ok (.pop, 1)) (g : jt_G p l e R s m args below meth c D C A nL n0 z0 sad ad0 Q q (pc + 1) lv st T) : jt_G p l e R s m args below meth c D C A nL n0 z0 sad ad0 Q q pc lv (.int x :: st) T :=
  x_go g (fun ad H locs cells slots ls hP hD hS hl g => lv_pop hc.1.1 hc.1.2.1 hdg rfl g)
/-- a text's bytes -/
theorem jt_val {j : Nat} (hj : j < 2) (hc : jt_cx p R s m args meth c cc D C A nL n0 z0 sad adV RJ0 F d ret q) (hdg : decode cc pc = .ok (.getfield 9, 3)) (g : jt_G p l e R s m args below meth c D C A nL n0 z0 sad ad0 Q q (pc + 3) lv (.retAddr (j + 2) :: st) T) : jt_G p l e R s m args below meth c D C A nL n0 z0 sad ad0 Q q pc lv (.retAddr j :: st) T := by
  obtain ⟨hcx, hxs, -, -, hsd, -, -⟩ := hc
  obtain ⟨hx, hb, hml, hown, hts, hKa, hA, hF, hG, hfr, hlo, hce, hsl, har, hXT⟩ := id hcx
  refine x_go g (fun ad H locs cells slots ls hP hD hS hl g => ?_)
  simp only [List.map_cons, x_val, hsd j hj] at g
  exact vk_getf hx hb (hxs.2.1.1 j hj).2.2.1 hS hown (hts _ (List.mem_append_right _ (List.mem_append_right _ (List.mem_of_getElem? (i := 4) rfl)))) (fun x h => h) hdg g
/-- a text's coder -/
theorem jt_cod {j : Nat} (hj : j < 2) (hc : jt_cx p R s m args meth c cc D C A nL n0 z0 sad adV RJ0 F d ret q) (hdg : decode cc pc = .ok (.getfield 15, 3)) (g : jt_G p l e R s m args below meth c D C A nL n0 z0 sad ad0 Q q (pc + 3) lv (.int 0 :: st) T) : jt_G p l e R s m args below meth c D C A nL n0 z0 sad ad0 Q q pc lv (.retAddr j :: st) T := by
  obtain ⟨hcx, hxs, -, -, hsd, -, -⟩ := hc
  obtain ⟨hx, hb, hml, hown, hts, hKa, hA, hF, hG, hfr, hlo, hce, hsl, har, hXT⟩ := id hcx
  refine x_go g (fun ad H locs cells slots ls hP hD hS hl g => ?_)
  exact vk_getf hx hb (hxs.2.1.1 j hj).2.1 hS hown (hts _ (List.mem_append_right _ (List.mem_append_right _ (List.mem_of_getElem? (i := 6) rfl)))) (fun x h => h) hdg g
/-- texts are compact -/
theorem jt_com (hc : jt_cx p R s m args meth c cc D C A nL n0 z0 sad adV RJ0 F d ret q) (hdg : decode cc pc = .ok (.getstatic 38, 3)) (g : jt_G p l e R s m args below meth c D C A nL n0 z0 sad ad0 Q q (pc + 3) lv (.int 1 :: st) T) : jt_G p l e R s m args below meth c D C A nL n0 z0 sad ad0 Q q pc lv st T := by
  obtain ⟨hcx, hxs, -, -, hsd, -, -⟩ := hc
  obtain ⟨hx, hb, hml, hown, hts, hKa, hA, hF, hG, hfr, hlo, hce, hsl, har, hXT⟩ := id hcx
  refine x_go g (fun ad H locs cells slots ls hP hD hS hl g => ?_)
  have hz : va_Z "java/lang/String" "COMPACT_STRINGS" "Z" (.int 1) A s s.heap := by
    rcases hxs.2.2.2 ("java/lang/String", "COMPACT_STRINGS", "Z", .int 1) (by simp [kX]) with h | h
    · cases h.1
    · exact h
  exact va_gets hx hb hz hS hown (hts _ (List.mem_append_right _ (List.mem_append_right _ (List.mem_of_getElem? (i := 5) rfl)))) (fun x h => h) hdg g
/-- how many bytes -/
theorem jt_len {j : Nat} (hj : j < 2) (hc : jt_cx p R s m args meth c cc D C A nL n0 z0 sad adV own F d ret q) (hdg : decode cc pc = .ok (.arraylength, 1)) (g : jt_G p l e R s m args below meth c D C A nL n0 z0 sad ad0 Q q (pc + 1) lv (.int (Int32.ofNat (kX.2.2.1.getD j 0)) :: st) T) : jt_G p l e R s m args below meth c D C A nL n0 z0 sad ad0 Q q pc lv (.retAddr (j + 2) :: st) T := by
  obtain ⟨hcx, hxs, -, -, hsd, -, -⟩ := hc
  obtain ⟨hx, hb, hml, hown, hts, hKa, hA, hF, hG, hfr, hlo, hce, hsl, har, hXT⟩ := id hcx
  refine x_go g (fun ad H locs cells slots ls hP hD hS hl g => ?_)
  simp only [List.map_cons, x_val, hsd j hj]
  exact va_tlen hx hb (hxs.2.1.1 j hj).2.2.2 hS rfl hdg g
/-- a byte -/
theorem jt_bal {j : Nat} {i : Int32} (hj : j < 2) (hin : x_in i (kX.2.2.1.getD j 0) = true) (hc : jt_cx p R s m args meth c cc D C A nL n0 z0 sad adV own F d ret q) (hdg : decode cc pc = .ok (.baload, 1)) (g : jt_G p l e R s m args below meth c D C A nL n0 z0 sad ad0 Q q (pc + 1) lv (.int ((kX.2.2.2.1.getD j []).getD i.toNatClampNeg 0) :: st) T) : jt_G p l e R s m args below meth c D C A nL n0 z0 sad ad0 Q q pc lv (.int i :: .retAddr (j + 2) :: st) T := by
  obtain ⟨hcx, hxs, -, -, hsd, -, -⟩ := hc
  obtain ⟨hx, hb, hml, hown, hts, hKa, hA, hF, hG, hfr, hlo, hce, hsl, har, hXT⟩ := id hcx
  refine x_go g (fun ad H locs cells slots ls hP hD hS hl g => ?_)
  simp only [List.map_cons, x_val, hsd j hj]
  exact va_tb hx hb (hxs.2.1.1 j hj).2.2.2 hS (x_in_vp hin) rfl hdg g
/-- ireturn, of any kind of int -/
theorem jt_ret {v : Int32} {ty : FieldType} (hc : jt_cx p R s m args meth c cc D C A nL n0 z0 sad adV own F d (some ty) (some (.int v), T)) (hn : narrow ty (.int v) = .int v) (hdg : decode cc pc = .ok (.ireturn, 1)) : jt_G p l e R s m args below meth c D C A nL n0 z0 sad ad0 (x_Q below args s D (x_cl kCL) C A ad0 n0 z0 (some (.int v), T)) (some (.int v), T) pc lv [.int v] T := by
  obtain ⟨hcx, hxs, hr, hlk, hsd, -, -⟩ := hc
  obtain ⟨hx, hb, hml, hown, hts, hKa, hA, hF, hG, hfr, hlo, hce, hsl, har, hXT⟩ := id hcx
  refine ⟨⟨Nat.le_refl _, Nat.le_refl _⟩, fun ad H locs cells slots ls e1 hP hD hS hl c1 c2 => ?_⟩
  obtain rfl : cells = T.1.length - n0 := by omega
  obtain rfl : slots = x_z T.1 - z0 := by omega
  refine W.zret hx hb hr hn ?_ hS.2.2 hdg hlk
  intro t ht hw
  exact ⟨⟨v, ad, rfl, ⟨rfl, e1⟩, ⟨by rw [ht]; exact hP, va_K.moved hw.alike hKa, hD⟩⟩, hS.F ht⟩
/-- the contract of a text's inner method: it answers r and leaves all as it is -/
def jt_C (l : Launch) (d : Nat) (y : MethodName) (bytes : ByteArray) (maxL : Nat) (ret : Option FieldType) (vs : List Value) (r : Option Value) : Prop :=
  ∀ (T : x_T) (ad sad adV : Nat → Nat) (D : va_G) (C : FieldType → ClassId) (sz : Nat), (∀ j, j < 2 → sad (j + 2) = adV j) → Met l y (.code y bytes maxL ret :: kTs) (x_rm d (T.1.length - T.1.length) (x_z T.1 - x_z T.1)) (va_Pc (vs.map (x_val ad sad)) (x_pre D (x_cl kCL) C kX ad sad adV T sz)) (x_post D (x_cl kCL) C (va_A (x_W ad C T) sz) ad T.1.length (r, T)) (T.1.length - T.1.length) (x_z T.1 - x_z T.1) (va_A (x_W ad C T) sz)
theorem jt_meth {y : MethodName} {bytes : ByteArray} {maxL : Nat} {vs : List Value} {r : Option Value} (F : Nat → Option Instr) (hpl : plainName y.cls = true) (hlen : (x_ar vs).length ≤ maxL) (hF : ∀ ix i, F ix = some i → ∀ (sad : Nat → Nat) (s : State), x_lk kTs y.cls (x_cl kCL) sad s ix i)
    (walk : ∀ (p : Program) (e : Env) (R : Room) (s : State) (m : MethodId) (args : Array Value) (below : List Frame) (meth : Method) (c : Code) (D : va_G) (C : FieldType → ClassId) (A : Nat → Prop) (n0 z0 : Nat) (sad adV ad0 : Nat → Nat) (T : x_T), T.1.length = n0 → x_z T.1 = z0 → jt_cx p R s m args meth c bytes D C A maxL n0 z0 sad adV y.cls F d ret (r, T) → jt_G p l e R s m args below meth c D C A maxL n0 z0 sad ad0 (x_Q below args s D (x_cl kCL) C A ad0 n0 z0 (r, T)) (r, T) 0 (x_ar vs ++ List.replicate (maxL - (x_ar vs).length) none) [] T) : jt_C l (d + 1) y bytes maxL ret vs r := by
  intro T ad sad adV D C sz hsd
  refine Met.ofW (cc := bytes) (maxL := maxL) (ret := ret) hpl rfl ?_
  intro p e s m args below meth c s₁ Bd hml hv
  obtain ⟨rfl, hsz, hP, hKa, hD0, hxs⟩ := hv
  subst hsz
  have hts0 := atoms_spec (ws := .code y bytes maxL ret :: kTs) Bd.pre
  have hc : x_cx p (x_rm (d + 1) (T.1.length - T.1.length) (x_z T.1 - x_z T.1)) s m (vs.map (x_val ad sad)).toArray meth c bytes D (x_cl kCL) C (va_A (x_W ad C T) s.heap.size) maxL T.1.length (x_z T.1) sad y.cls kTs F jt_np x_nx (r, T) := by
    refine ⟨Bd.exec, Bd.bytes, hml, findClass_of_methodNamed Bd.named, fun w hw => hts0 w (List.mem_cons_of_mem _ hw), hKa, fun q hq => Or.inr hq, fun ix i hi => hF ix i hi sad s, fun ix i hi => (by cases hi), ?_, ?_, ?_, ?_, ?_, fun j n f h => by cases h⟩
    · show 1 ≤ d + 1; omega
    · show 60 ≤ 100 * (d + 1); omega
    · show T.1.length ≤ T.1.length + (T.1.length - T.1.length); omega
    · show x_z T.1 ≤ x_z T.1 + (x_z T.1 - x_z T.1); omega
    · intro ty
      by_cases h1 : ty = .int
      · subst h1; exact Or.inl (List.mem_append_left _ (by simp [kTa, x_all]))
      · by_cases h2 : ty = .boolean
        · subst h2; exact Or.inl (List.mem_append_left _ (by simp [kTa, x_all]))
        · by_cases h3 : ty = .long
          · subst h3; exact Or.inl (List.mem_append_left _ (by simp [kTa, x_all]))
          · exact Or.inr ⟨h1, h2, h3⟩
  have hg := (walk p e (x_rm (d + 1) (T.1.length - T.1.length) (x_z T.1 - x_z T.1)) s m (vs.map (x_val ad sad)).toArray below meth c D C _ _ _ sad adV ad T rfl rfl ⟨hc, hxs, Bd.returns, Bd.notSynchronized, hsd, Nat.le_refl _, by show 100 * d + 100 ≤ 100 * (d + 1); omega⟩).2
  have hl := lv_entry (vs.map (x_val ad sad)) (n := maxL) (by rw [x_ar_len]; omega)
  rw [lg_entry_eq]
  refine hg ad s.heap [] 0 0 _ (fun _ _ => rfl) hP (hD0.self) va_S.rf ⟨_, hl, by rw [List.length_append, List.length_replicate]; omega, fun j v hj => ?_⟩ (Nat.zero_add _) (Nat.zero_add _)
  have hj2 : (x_ar vs)[j]? = some (some v) := by
    rcases Nat.lt_or_ge j (x_ar vs).length with h1 | h1
    · rwa [List.getElem?_append_left h1] at hj
    · rw [List.getElem?_append_right h1, List.getElem?_replicate] at hj
      split at hj
      · cases hj
      · cases hj
  have := x_ar_in ad sad vs 0 j v hj2
  rwa [Nat.zero_add] at this
set_option maxHeartbeats 1000000 in
/-- behind a call of an inner method -/
theorem jt_backW {v : Option Value} {r stv : List Value} {a : Array Value} {ad : Nat → Nat} {H : Heap} {locs : List Loc} {cells slots : Nat} {ls : Array Slot} (hc : x_cx p R s m args meth c cc D (x_cl kCL) C A nL n0 z0 sad own kTs F jt_np x_nx q) (hv : v = none ∨ ∃ x, v = some (.int x)) (k4 : x_okl T.1.length lv = true) (k5 : x_oks T.1.length r = true) (e1 : ∀ i, i < n0 → ad i = ad0 i) (hP : va_P D (x_cl kCL) (x_W ad C T) H) (hD : va_D A (x_W ad C T)) (hS : va_S A s.heap H locs) (hl : x_ls ad sad ls nL lv) (c1 : cells + n0 = T.1.length) (c2 : slots + z0 = x_z T.1)
    (hr : va_Run p l e R s m args below meth c H locs cells slots (T.1.length - T.1.length) (x_z T.1 - x_z T.1) (F0 m pc ls stv) (r.map (x_val ad sad)) (x_post D (x_cl kCL) C (va_A (x_W ad C T) H.size) ad T.1.length (v, T) a) (va_A (x_W ad C T) H.size))
    (g : x_G p l e R s m args below meth c D (x_cl kCL) C A nL n0 z0 sad ad0 Q (pc + 3) lv (v.toList ++ r) T) : W p l e R s m args below meth c H locs cells slots Q (F0 m pc ls stv) := by
  obtain ⟨hx, hb, hml, hown, hts, hKa, hA, hF, hG, hfr, hlo, hce, hsl, har, hXT⟩ := id hc
  have hsub := x_A_sub (C := C) hA hD hS
  have go : ∀ (ad' : Nat → Nat) (t : State) (H1 : Heap) (locs1 : List Loc), t.heap = H1 → (∀ i, i < T.1.length → ad' i = ad i) → x_B D (x_cl kCL) C (va_A (x_W ad C T) H.size) T ad' t → va_S A s.heap H1 locs1 → W p l e R s m args below meth c H1 locs1 (cells + (T.1.length - T.1.length)) (slots + (x_z T.1 - x_z T.1)) Q (F0 m (pc + 3) ls ((v.toList ++ r).map (x_val ad' sad))) := by
    intro ad' t H1 locs1 ht hex hB hS1
    obtain ⟨b1, b2, b3⟩ := hB
    rw [ht] at b1
    exact g ad' H1 locs1 _ _ ls (fun i hi => by rw [hex i (by omega)]; exact e1 i hi) b1 (b3.weaken (fun _ _ _ h => hsub _ h)) hS1 (x_ls_ex hex k4 hl) (by omega) (by omega)
  rcases hv with rfl | ⟨x, rfl⟩
  · refine va_callv (a := a) hr hS (fun q _ h => hsub q h) hsub (fun ad' t H1 locs1 ht hvm hw hB hz1 hk1 hS1 => ?_)
    have hgo := go ad' t H1 locs1 ht hw hB hS1
    simp only [Option.toList_none, List.nil_append] at hgo
    rw [x_st_ex hw k5] at hgo
    exact hgo
  · refine va_calli (a := a) hr hS (fun q _ h => hsub q h) hsub (fun x' ad' t H1 locs1 ht hvm hw hB hz1 hk1 hS1 => ?_)
    obtain ⟨rfl, hw⟩ := hw
    have hgo := go ad' t H1 locs1 ht hw hB hS1
    simp only [Option.toList_some, List.cons_append, List.nil_append, List.map_cons, x_val] at hgo
    rw [x_st_ex hw k5] at hgo
    exact hgo
theorem jt_good {y : MethodName} {bytes : ByteArray} {maxL : Nat} {ret : Option FieldType} (m1 : Cond.code y bytes maxL ret ∈ kTs) : GoodIn kTs (.code y bytes maxL ret :: kTs) := by
  intro w hw
  have hm : w ∈ kTs := by
    rcases List.mem_cons.mp hw with rfl | h
    · exact m1
    · exact h
  exact ⟨hm, good_of_word ((k_words w hm).2)⟩
/-- what is known of a method that is called -/
def jt_mk (y : MethodName) (bytes : ByteArray) (maxL : Nat) (ret : Option FieldType) (n : Nat) : Prop := Cond.code y bytes maxL ret ∈ kTs ∧ Cond.initialized y.cls ∈ kTs ∧ (y.cls ≠ "java/lang/invoke/MethodHandle" ∧ y.cls ≠ "java/lang/invoke/VarHandle" ∧ (parseMethodDescriptor y.desc).map (fun d => d.parameters.length) = some n) ∧ maxL ≤ 80
set_option maxHeartbeats 1000000 in
theorem jt_callS {ix : Nat} {y : MethodName} {bytes : ByteArray} {maxL : Nat} {ret2 : Option FieldType} {As r : List Value} {v : Option Value} (hC : jt_C l d y bytes maxL ret2 As v) (hv : v = none ∨ ∃ x, v = some (.int x)) (hc : jt_cx p R s m args meth c cc D C A nL n0 z0 sad adV own F d ret q) (hdg : decode cc pc = .ok (.invokestatic ix, 3)) (hmk : jt_mk y bytes maxL ret2 As.length) (hlink : Cond.methodLink own ix y ∈ kTs) (hstat : Cond.static y ∈ kTs) (hsm : Nat.ble (x_sm r) 8 = true) (k4 : x_okl T.1.length lv = true) (k5 : x_oks T.1.length r = true) (g : jt_G p l e R s m args below meth c D C A nL n0 z0 sad ad0 Q q (pc + 3) lv (v.toList ++ r) T) : jt_G p l e R s m args below meth c D C A nL n0 z0 sad ad0 Q q pc lv (As.reverse ++ r) T := by
  obtain ⟨hcx, hxs, hrt, hlk, hsd, hR1, hR2⟩ := hc
  obtain ⟨hx, hb, hml, hown, hts, hKa, hA, hF, hG, hfr, hlo, hce, hsl, har, hXT⟩ := id hcx
  obtain ⟨m1, m2, m3, m4⟩ := hmk
  refine ⟨g.1, fun ad H locs cells slots ls e1 hP hD hS hl c1 c2 => ?_⟩
  have hlsz : ls.size = nL := by obtain ⟨lst, hl1, hl2, hl3⟩ := hl; exact hl1.1
  have hM := hC T ad sad adV D C H.size hsd
  have hst : (As.reverse ++ r).map (x_val ad sad) = (As.map (x_val ad sad)).reverse ++ r.map (x_val ad sad) := by simp
  rw [hst]
  have hmo := g.1
  unfold x_mo at hmo
  refine jt_backW (a := (As.map (x_val ad sad)).toArray) hcx hv k4 k5 e1 hP hD hS hl c1 c2 ?_ g.2
  exact va_runS (nL := nL) (As := As.map (x_val ad sad)) (rest := r.map (x_val ad sad)) (n := As.length) ⟨hx, hb, hml, hown, hts⟩ hM ⟨(callB_of (bytes := bytes) (maxL := maxL) (ret := ret2) (ws' := kTs) _ hts (jt_good m1) rfl rfl rfl (hts _ m2) (hts _ hlink) m3 ⟨hR1, by show 8 + (_ + 11) + 100 * d ≤ _; omega⟩), hts _ hstat⟩ ⟨x_blind, fun U hU hW => ⟨by simp, x_pre_call hKa hxs hA hP hD hS hU hW⟩⟩ rfl (by rw [List.length_map]) hlsz rfl (lv_room (by rw [x_sm_val (sad := sad) ad]; exact Nat.le_of_ble_eq_true hsm)) hdg ⟨by omega, by omega⟩
set_option maxHeartbeats 1000000 in
theorem jt_callV {ix b : Nat} {y : MethodName} {bytes : ByteArray} {maxL : Nat} {ret2 : Option FieldType} {As r : List Value} {v : Option Value} (hC : jt_C l d y bytes maxL ret2 (.retAddr b :: As) v) (hb2 : b < 2) (hv : v = none ∨ ∃ x, v = some (.int x)) (hc : jt_cx p R s m args meth c cc D C A nL n0 z0 sad adV own F d ret q) (hdg : decode cc pc = .ok (.invokevirtual ix, 3)) (hmk : jt_mk y bytes maxL ret2 As.length) (hcls : y.cls = "java/lang/String") (hlink : Cond.methodLink own ix y ∈ kTs) (hinst : Cond.instanceMethod y ∈ kTs) (hsel : Cond.selects y.cls y y ∈ kTs) (hsm : Nat.ble (x_sm r) 8 = true) (k4 : x_okl T.1.length lv = true) (k5 : x_oks T.1.length r = true) (g : jt_G p l e R s m args below meth c D C A nL n0 z0 sad ad0 Q q (pc + 3) lv (v.toList ++ r) T) : jt_G p l e R s m args below meth c D C A nL n0 z0 sad ad0 Q q pc lv (As.reverse ++ .retAddr b :: r) T := by
  obtain ⟨hcx, hxs, hrt, hlk, hsd, hR1, hR2⟩ := hc
  obtain ⟨hx, hb, hml, hown, hts, hKa, hA, hF, hG, hfr, hlo, hce, hsl, har, hXT⟩ := id hcx
  obtain ⟨m1, m2, m3, m4⟩ := hmk
  refine ⟨g.1, fun ad H locs cells slots ls e1 hP hD hS hl c1 c2 => ?_⟩
  have hlsz : ls.size = nL := by obtain ⟨lst, hl1, hl2, hl3⟩ := hl; exact hl1.1
  have hM := hC T ad sad adV D C H.size hsd
  have hst : (As.reverse ++ .retAddr b :: r).map (x_val ad sad) = (As.map (x_val ad sad)).reverse ++ .ref (sad b) :: r.map (x_val ad sad) := by simp [x_val]
  rw [hst]
  have hrec : ∃ cellB : Cell, H[sad b]? = some cellB ∧ cellB.vm.isStatics = false ∧ s.vm.findClass y.cls = some cellB.cls := by
    obtain ⟨cell, e1, e2, e3, e4⟩ := ((vk_S.kept hxs.2.1 (fun a ha hn => hS.2.1 a ha hn)).1 b hb2).1
    exact ⟨cell, e1, e2, by rw [hcls]; exact e3⟩
  have hmo := g.1
  unfold x_mo at hmo
  refine jt_backW (a := ((.retAddr b :: As).map (x_val ad sad)).toArray) hcx hv k4 k5 e1 hP hD hS hl c1 c2 ?_ g.2
  exact va_runV (nL := nL) (As := As.map (x_val ad sad)) (rest := r.map (x_val ad sad)) (n := As.length) ⟨hx, hb, hml, hown, hts⟩ hM ⟨(callB_of (bytes := bytes) (maxL := maxL) (ret := ret2) (ws' := kTs) _ hts (jt_good m1) rfl rfl rfl (hts _ m2) (hts _ hlink) m3 ⟨hR1, by show 8 + (_ + 11) + 100 * d ≤ _; omega⟩), hts _ hinst, hts _ hsel⟩ ⟨x_blind, hrec, fun U hU hW => ⟨by simp [x_val], x_pre_call hKa hxs hA hP hD hS hU hW⟩⟩ rfl (by rw [List.length_map]) hlsz rfl (lv_room (by rw [x_sm_val (sad := sad) ad]; exact Nat.le_of_ble_eq_true hsm)) hdg ⟨by omega, by omega⟩
theorem e_coder_0 : decode cJ0_coder_7d493 0 = .ok (.getstatic 38, 3) := by decide +kernel
theorem e_coder_3 : decode cJ0_coder_7d493 3 = .ok (.ifCond .eq 10, 3) := by decide +kernel
theorem e_coder_6 : decode cJ0_coder_7d493 6 = .ok (.aload_n 0, 1) := by decide +kernel
theorem e_coder_7 : decode cJ0_coder_7d493 7 = .ok (.getfield 15, 3) := by decide +kernel
theorem e_coder_10 : decode cJ0_coder_7d493 10 = .ok (.goto 4, 3) := by decide +kernel
theorem e_coder_13 : decode cJ0_coder_7d493 13 = .ok (.iconst 1, 1) := by decide +kernel
theorem e_coder_14 : decode cJ0_coder_7d493 14 = .ok (.ireturn, 1) := by decide +kernel
theorem e_lat_0 : decode cJ0_isLatin1_aae02 0 = .ok (.getstatic 38, 3) := by decide +kernel
theorem e_lat_3 : decode cJ0_isLatin1_aae02 3 = .ok (.ifCond .eq 14, 3) := by decide +kernel
theorem e_lat_6 : decode cJ0_isLatin1_aae02 6 = .ok (.aload_n 0, 1) := by decide +kernel
theorem e_lat_7 : decode cJ0_isLatin1_aae02 7 = .ok (.getfield 15, 3) := by decide +kernel
theorem e_lat_10 : decode cJ0_isLatin1_aae02 10 = .ok (.ifCond .ne 7, 3) := by decide +kernel
theorem e_lat_13 : decode cJ0_isLatin1_aae02 13 = .ok (.iconst 1, 1) := by decide +kernel
theorem e_lat_14 : decode cJ0_isLatin1_aae02 14 = .ok (.goto 4, 3) := by decide +kernel
theorem e_lat_17 : decode cJ0_isLatin1_aae02 17 = .ok (.iconst 0, 1) := by decide +kernel
theorem e_lat_18 : decode cJ0_isLatin1_aae02 18 = .ok (.ireturn, 1) := by decide +kernel
theorem e_chk_0 : decode cJ0_checkIndex_df160 0 = .ok (.iload_n 0, 1) := by decide +kernel
theorem e_chk_1 : decode cJ0_checkIndex_df160 1 = .ok (.iload_n 1, 1) := by decide +kernel
theorem e_chk_2 : decode cJ0_checkIndex_df160 2 = .ok (.getstatic 1053, 3) := by decide +kernel
theorem e_chk_5 : decode cJ0_checkIndex_df160 5 = .ok (.invokestatic 1059, 3) := by decide +kernel
theorem e_chk_8 : decode cJ0_checkIndex_df160 8 = .ok (.pop, 1) := by decide +kernel
theorem e_chk_9 : decode cJ0_checkIndex_df160 9 = .ok (.return_, 1) := by decide +kernel
theorem e_pck_0 : decode cJ3_checkIndex_8e157 0 = .ok (.iload_n 0, 1) := by decide +kernel
theorem e_pck_1 : decode cJ3_checkIndex_8e157 1 = .ok (.ifCond .lt 8, 3) := by decide +kernel
theorem e_pck_4 : decode cJ3_checkIndex_8e157 4 = .ok (.iload_n 0, 1) := by decide +kernel
theorem e_pck_5 : decode cJ3_checkIndex_8e157 5 = .ok (.iload_n 1, 1) := by decide +kernel
theorem e_pck_6 : decode cJ3_checkIndex_8e157 6 = .ok (.if_icmp .lt 10, 3) := by decide +kernel
theorem e_pck_9 : decode cJ3_checkIndex_8e157 9 = .ok (.aload_n 2, 1) := by decide +kernel
theorem e_pck_10 : decode cJ3_checkIndex_8e157 10 = .ok (.iload_n 0, 1) := by decide +kernel
theorem e_pck_11 : decode cJ3_checkIndex_8e157 11 = .ok (.iload_n 1, 1) := by decide +kernel
theorem e_pck_12 : decode cJ3_checkIndex_8e157 12 = .ok (.invokestatic 95, 3) := by decide +kernel
theorem e_pck_15 : decode cJ3_checkIndex_8e157 15 = .ok (.athrow, 1) := by decide +kernel
theorem e_pck_16 : decode cJ3_checkIndex_8e157 16 = .ok (.iload_n 0, 1) := by decide +kernel
theorem e_pck_17 : decode cJ3_checkIndex_8e157 17 = .ok (.ireturn, 1) := by decide +kernel
theorem e_lca_0 : decode cJ1_charAt_3b067 0 = .ok (.iload_n 1, 1) := by decide +kernel
theorem e_lca_1 : decode cJ1_charAt_3b067 1 = .ok (.aload_n 0, 1) := by decide +kernel
theorem e_lca_2 : decode cJ1_charAt_3b067 2 = .ok (.arraylength, 1) := by decide +kernel
theorem e_lca_3 : decode cJ1_charAt_3b067 3 = .ok (.invokestatic 9, 3) := by decide +kernel
theorem e_lca_6 : decode cJ1_charAt_3b067 6 = .ok (.aload_n 0, 1) := by decide +kernel
theorem e_lca_7 : decode cJ1_charAt_3b067 7 = .ok (.iload_n 1, 1) := by decide +kernel
theorem e_lca_8 : decode cJ1_charAt_3b067 8 = .ok (.baload, 1) := by decide +kernel
theorem e_lca_9 : decode cJ1_charAt_3b067 9 = .ok (.sipush 255, 3) := by decide +kernel
theorem e_lca_12 : decode cJ1_charAt_3b067 12 = .ok (.iand, 1) := by decide +kernel
theorem e_lca_13 : decode cJ1_charAt_3b067 13 = .ok (.i2c, 1) := by decide +kernel
theorem e_lca_14 : decode cJ1_charAt_3b067 14 = .ok (.ireturn, 1) := by decide +kernel
theorem e_enc_0 : decode cJ1_canEncode_9a6ad 0 = .ok (.iload_n 0, 1) := by decide +kernel
theorem e_enc_1 : decode cJ1_canEncode_9a6ad 1 = .ok (.ifCond .lt 14, 3) := by decide +kernel
theorem e_enc_4 : decode cJ1_canEncode_9a6ad 4 = .ok (.iload_n 0, 1) := by decide +kernel
theorem e_enc_5 : decode cJ1_canEncode_9a6ad 5 = .ok (.sipush 255, 3) := by decide +kernel
theorem e_enc_8 : decode cJ1_canEncode_9a6ad 8 = .ok (.if_icmp .gt 7, 3) := by decide +kernel
theorem e_enc_11 : decode cJ1_canEncode_9a6ad 11 = .ok (.iconst 1, 1) := by decide +kernel
theorem e_enc_12 : decode cJ1_canEncode_9a6ad 12 = .ok (.goto 4, 3) := by decide +kernel
theorem e_enc_15 : decode cJ1_canEncode_9a6ad 15 = .ok (.iconst 0, 1) := by decide +kernel
theorem e_enc_16 : decode cJ1_canEncode_9a6ad 16 = .ok (.ireturn, 1) := by decide +kernel
theorem e_lio_0 : decode cJ1_indexOf_4cfef 0 = .ok (.iload_n 1, 1) := by decide +kernel
theorem e_lio_1 : decode cJ1_indexOf_4cfef 1 = .ok (.invokestatic 88, 3) := by decide +kernel
theorem e_lio_4 : decode cJ1_indexOf_4cfef 4 = .ok (.ifCond .ne 5, 3) := by decide +kernel
theorem e_lio_7 : decode cJ1_indexOf_4cfef 7 = .ok (.iconst (-1), 1) := by decide +kernel
theorem e_lio_8 : decode cJ1_indexOf_4cfef 8 = .ok (.ireturn, 1) := by decide +kernel
theorem e_lio_9 : decode cJ1_indexOf_4cfef 9 = .ok (.iload_n 2, 1) := by decide +kernel
theorem e_lio_10 : decode cJ1_indexOf_4cfef 10 = .ok (.iconst 0, 1) := by decide +kernel
theorem e_lio_11 : decode cJ1_indexOf_4cfef 11 = .ok (.invokestatic 92, 3) := by decide +kernel
theorem e_lio_14 : decode cJ1_indexOf_4cfef 14 = .ok (.istore_n 2, 1) := by decide +kernel
theorem e_lio_15 : decode cJ1_indexOf_4cfef 15 = .ok (.iload_n 3, 1) := by decide +kernel
theorem e_lio_16 : decode cJ1_indexOf_4cfef 16 = .ok (.aload_n 0, 1) := by decide +kernel
theorem e_lio_17 : decode cJ1_indexOf_4cfef 17 = .ok (.arraylength, 1) := by decide +kernel
theorem e_lio_18 : decode cJ1_indexOf_4cfef 18 = .ok (.invokestatic 38, 3) := by decide +kernel
theorem e_lio_21 : decode cJ1_indexOf_4cfef 21 = .ok (.istore_n 3, 1) := by decide +kernel
theorem e_lio_22 : decode cJ1_indexOf_4cfef 22 = .ok (.iload_n 2, 1) := by decide +kernel
theorem e_lio_23 : decode cJ1_indexOf_4cfef 23 = .ok (.iload_n 3, 1) := by decide +kernel
theorem e_lio_24 : decode cJ1_indexOf_4cfef 24 = .ok (.if_icmp .lt 5, 3) := by decide +kernel
theorem e_lio_27 : decode cJ1_indexOf_4cfef 27 = .ok (.iconst (-1), 1) := by decide +kernel
theorem e_lio_28 : decode cJ1_indexOf_4cfef 28 = .ok (.ireturn, 1) := by decide +kernel
theorem e_lio_29 : decode cJ1_indexOf_4cfef 29 = .ok (.aload_n 0, 1) := by decide +kernel
theorem e_lio_30 : decode cJ1_indexOf_4cfef 30 = .ok (.iload_n 1, 1) := by decide +kernel
theorem e_lio_31 : decode cJ1_indexOf_4cfef 31 = .ok (.iload_n 2, 1) := by decide +kernel
theorem e_lio_32 : decode cJ1_indexOf_4cfef 32 = .ok (.iload_n 3, 1) := by decide +kernel
theorem e_lio_33 : decode cJ1_indexOf_4cfef 33 = .ok (.invokestatic 95, 3) := by decide +kernel
theorem e_lio_36 : decode cJ1_indexOf_4cfef 36 = .ok (.ireturn, 1) := by decide +kernel
theorem e_ioc_0 : decode cJ1_indexOfChar_4cfef 0 = .ok (.iload_n 1, 1) := by decide +kernel
theorem e_ioc_1 : decode cJ1_indexOfChar_4cfef 1 = .ok (.i2b, 1) := by decide +kernel
theorem e_ioc_2 : decode cJ1_indexOfChar_4cfef 2 = .ok (.istore 4, 2) := by decide +kernel
theorem e_ioc_4 : decode cJ1_indexOfChar_4cfef 4 = .ok (.iload_n 2, 1) := by decide +kernel
theorem e_ioc_5 : decode cJ1_indexOfChar_4cfef 5 = .ok (.istore 5, 2) := by decide +kernel
theorem e_ioc_7 : decode cJ1_indexOfChar_4cfef 7 = .ok (.iload 5, 2) := by decide +kernel
theorem e_ioc_9 : decode cJ1_indexOfChar_4cfef 9 = .ok (.iload_n 3, 1) := by decide +kernel
theorem e_ioc_10 : decode cJ1_indexOfChar_4cfef 10 = .ok (.if_icmp .ge 21, 3) := by decide +kernel
theorem e_ioc_13 : decode cJ1_indexOfChar_4cfef 13 = .ok (.aload_n 0, 1) := by decide +kernel
theorem e_ioc_14 : decode cJ1_indexOfChar_4cfef 14 = .ok (.iload 5, 2) := by decide +kernel
theorem e_ioc_16 : decode cJ1_indexOfChar_4cfef 16 = .ok (.baload, 1) := by decide +kernel
theorem e_ioc_17 : decode cJ1_indexOfChar_4cfef 17 = .ok (.iload 4, 2) := by decide +kernel
theorem e_ioc_19 : decode cJ1_indexOfChar_4cfef 19 = .ok (.if_icmp .ne 6, 3) := by decide +kernel
theorem e_ioc_22 : decode cJ1_indexOfChar_4cfef 22 = .ok (.iload 5, 2) := by decide +kernel
theorem e_ioc_24 : decode cJ1_indexOfChar_4cfef 24 = .ok (.ireturn, 1) := by decide +kernel
theorem e_ioc_25 : decode cJ1_indexOfChar_4cfef 25 = .ok (.iinc 5 1, 3) := by decide +kernel
theorem e_ioc_28 : decode cJ1_indexOfChar_4cfef 28 = .ok (.goto (-21), 3) := by decide +kernel
theorem e_ioc_31 : decode cJ1_indexOfChar_4cfef 31 = .ok (.iconst (-1), 1) := by decide +kernel
theorem e_ioc_32 : decode cJ1_indexOfChar_4cfef 32 = .ok (.ireturn, 1) := by decide +kernel
theorem e_io2_0 : decode cJ0_indexOf_7cf53 0 = .ok (.aload_n 0, 1) := by decide +kernel
theorem e_io2_1 : decode cJ0_indexOf_7cf53 1 = .ok (.invokevirtual 492, 3) := by decide +kernel
theorem e_io2_4 : decode cJ0_indexOf_7cf53 4 = .ok (.ifCond .eq 19, 3) := by decide +kernel
theorem e_io2_7 : decode cJ0_indexOf_7cf53 7 = .ok (.aload_n 0, 1) := by decide +kernel
theorem e_io2_8 : decode cJ0_indexOf_7cf53 8 = .ok (.getfield 9, 3) := by decide +kernel
theorem e_io2_11 : decode cJ0_indexOf_7cf53 11 = .ok (.iload_n 1, 1) := by decide +kernel
theorem e_io2_12 : decode cJ0_indexOf_7cf53 12 = .ok (.iload_n 2, 1) := by decide +kernel
theorem e_io2_13 : decode cJ0_indexOf_7cf53 13 = .ok (.aload_n 0, 1) := by decide +kernel
theorem e_io2_14 : decode cJ0_indexOf_7cf53 14 = .ok (.invokevirtual 505, 3) := by decide +kernel
theorem e_io2_17 : decode cJ0_indexOf_7cf53 17 = .ok (.invokestatic 637, 3) := by decide +kernel
theorem e_io2_20 : decode cJ0_indexOf_7cf53 20 = .ok (.goto 16, 3) := by decide +kernel
theorem e_io2_23 : decode cJ0_indexOf_7cf53 23 = .ok (.aload_n 0, 1) := by decide +kernel
theorem e_io2_24 : decode cJ0_indexOf_7cf53 24 = .ok (.getfield 9, 3) := by decide +kernel
theorem e_io2_27 : decode cJ0_indexOf_7cf53 27 = .ok (.iload_n 1, 1) := by decide +kernel
theorem e_io2_28 : decode cJ0_indexOf_7cf53 28 = .ok (.iload_n 2, 1) := by decide +kernel
theorem e_io2_29 : decode cJ0_indexOf_7cf53 29 = .ok (.aload_n 0, 1) := by decide +kernel
theorem e_io2_30 : decode cJ0_indexOf_7cf53 30 = .ok (.invokevirtual 505, 3) := by decide +kernel
theorem e_io2_33 : decode cJ0_indexOf_7cf53 33 = .ok (.invokestatic 640, 3) := by decide +kernel
theorem e_io2_36 : decode cJ0_indexOf_7cf53 36 = .ok (.ireturn, 1) := by decide +kernel
theorem e_len_0 : decode cJ0_length_8abf5 0 = .ok (.aload_n 0, 1) := by decide +kernel
theorem e_len_1 : decode cJ0_length_8abf5 1 = .ok (.getfield 9, 3) := by decide +kernel
theorem e_len_4 : decode cJ0_length_8abf5 4 = .ok (.arraylength, 1) := by decide +kernel
theorem e_len_5 : decode cJ0_length_8abf5 5 = .ok (.aload_n 0, 1) := by decide +kernel
theorem e_len_6 : decode cJ0_length_8abf5 6 = .ok (.invokevirtual 335, 3) := by decide +kernel
theorem e_len_9 : decode cJ0_length_8abf5 9 = .ok (.ishr, 1) := by decide +kernel
theorem e_len_10 : decode cJ0_length_8abf5 10 = .ok (.ireturn, 1) := by decide +kernel
theorem e_cha_0 : decode cJ0_charAt_5068e 0 = .ok (.aload_n 0, 1) := by decide +kernel
theorem e_cha_1 : decode cJ0_charAt_5068e 1 = .ok (.invokevirtual 492, 3) := by decide +kernel
theorem e_cha_4 : decode cJ0_charAt_5068e 4 = .ok (.ifCond .eq 12, 3) := by decide +kernel
theorem e_cha_7 : decode cJ0_charAt_5068e 7 = .ok (.aload_n 0, 1) := by decide +kernel
theorem e_cha_8 : decode cJ0_charAt_5068e 8 = .ok (.getfield 9, 3) := by decide +kernel
theorem e_cha_11 : decode cJ0_charAt_5068e 11 = .ok (.iload_n 1, 1) := by decide +kernel
theorem e_cha_12 : decode cJ0_charAt_5068e 12 = .ok (.invokestatic 495, 3) := by decide +kernel
theorem e_cha_15 : decode cJ0_charAt_5068e 15 = .ok (.ireturn, 1) := by decide +kernel
theorem e_cha_16 : decode cJ0_charAt_5068e 16 = .ok (.aload_n 0, 1) := by decide +kernel
theorem e_cha_17 : decode cJ0_charAt_5068e 17 = .ok (.getfield 9, 3) := by decide +kernel
theorem e_cha_20 : decode cJ0_charAt_5068e 20 = .ok (.iload_n 1, 1) := by decide +kernel
theorem e_cha_21 : decode cJ0_charAt_5068e 21 = .ok (.invokestatic 498, 3) := by decide +kernel
theorem e_cha_24 : decode cJ0_charAt_5068e 24 = .ok (.ireturn, 1) := by decide +kernel
theorem e_io1_0 : decode cJ0_indexOf_0f7a4 0 = .ok (.aload_n 0, 1) := by decide +kernel
theorem e_io1_1 : decode cJ0_indexOf_0f7a4 1 = .ok (.iload_n 1, 1) := by decide +kernel
theorem e_io1_2 : decode cJ0_indexOf_0f7a4 2 = .ok (.iconst 0, 1) := by decide +kernel
theorem e_io1_3 : decode cJ0_indexOf_0f7a4 3 = .ok (.invokevirtual 633, 3) := by decide +kernel
theorem e_io1_6 : decode cJ0_indexOf_0f7a4 6 = .ok (.ireturn, 1) := by decide +kernel
theorem jt_w {w : Cond} (i : Nat) (h : kJw[i]? = some w) : w ∈ kTs := List.mem_append_right _ (List.mem_append_right _ (List.mem_of_getElem? h))
theorem jt_c {w : Cond} (i : Nat) (h : kJc[i]? = some w) : w ∈ kTs := List.mem_append_right _ (List.mem_append_left _ (List.mem_of_getElem? h))
theorem jt_coder {j : Nat} (hj : j < 2) : jt_C l (d + 1) yJ0_coder_7d493 cJ0_coder_7d493 1 (some .byte) [.retAddr j] (some (.int 0)) := by
  refine jt_meth jt_np (by decide +kernel) (Nat.le_refl _) (fun ix i h => by cases h) ?_
  intro p e R s m args below meth c D C A n0 z0 sad adV ad0 T hn hz hc
  refine jt_com hc e_coder_0 ?_
  refine x_o_ifc hc.1 e_coder_3 (t := 13) (by decide) (fun h => absurd h (by decide)) (fun _ => ?_)
  refine jt_1 (.aload 0) hc e_coder_6 rfl (fun K => rfl) ?_
  refine jt_cod hj hc e_coder_7 ?_
  refine jt_goto hc e_coder_10 (t := 14) (by decide) ?_
  exact jt_ret hc rfl e_coder_14
theorem jt_lat {j : Nat} (hj : j < 2) : jt_C l (d + 1) yJ0_isLatin1_aae02 cJ0_isLatin1_aae02 1 (some .boolean) [.retAddr j] (some (.int 1)) := by
  refine jt_meth jt_np (by decide +kernel) (Nat.le_refl _) (fun ix i h => by cases h) ?_
  intro p e R s m args below meth c D C A n0 z0 sad adV ad0 T hn hz hc
  refine jt_com hc e_lat_0 ?_
  refine x_o_ifc hc.1 e_lat_3 (t := 17) (by decide) (fun h => absurd h (by decide)) (fun _ => ?_)
  refine jt_1 (.aload 0) hc e_lat_6 rfl (fun K => rfl) ?_
  refine jt_cod hj hc e_lat_7 ?_
  refine x_o_ifc hc.1 e_lat_10 (t := 17) (by decide) (fun h => absurd h (by decide)) (fun _ => ?_)
  refine jt_1 (.iconst 1) hc e_lat_13 rfl (fun K => rfl) ?_
  refine jt_goto hc e_lat_14 (t := 18) (by decide) ?_
  exact jt_ret hc rfl e_lat_18
theorem jt_mk_coder : jt_mk yJ0_coder_7d493 cJ0_coder_7d493 1 (some .byte) 0 := ⟨jt_c 4 rfl, jt_w 0 rfl, ⟨by decide, by decide, by decide +kernel⟩, by decide⟩
theorem jt_mk_lat : jt_mk yJ0_isLatin1_aae02 cJ0_isLatin1_aae02 1 (some .boolean) 0 := ⟨jt_c 5 rfl, jt_w 0 rfl, ⟨by decide, by decide, by decide +kernel⟩, by decide⟩
theorem jt_mk_len : jt_mk yJ0_length_8abf5 cJ0_length_8abf5 1 (some .int) 0 := ⟨jt_c 0 rfl, jt_w 0 rfl, ⟨by decide, by decide, by decide +kernel⟩, by decide⟩
theorem jt_mk_io2 : jt_mk yJ0_indexOf_7cf53 cJ0_indexOf_7cf53 3 (some .int) 2 := ⟨jt_c 3 rfl, jt_w 0 rfl, ⟨by decide, by decide, by decide +kernel⟩, by decide⟩
theorem jt_mk_chk : jt_mk yJ0_checkIndex_df160 cJ0_checkIndex_df160 2 none 2 := ⟨jt_c 6 rfl, jt_w 0 rfl, ⟨by decide, by decide, by decide +kernel⟩, by decide⟩
theorem jt_mk_lca : jt_mk yJ1_charAt_3b067 cJ1_charAt_3b067 2 (some .char) 2 := ⟨jt_c 7 rfl, jt_w 1 rfl, ⟨by decide, by decide, by decide +kernel⟩, by decide⟩
theorem jt_mk_enc : jt_mk yJ1_canEncode_9a6ad cJ1_canEncode_9a6ad 1 (some .boolean) 1 := ⟨jt_c 8 rfl, jt_w 1 rfl, ⟨by decide, by decide, by decide +kernel⟩, by decide⟩
theorem jt_mk_lio : jt_mk yJ1_indexOf_4cfef cJ1_indexOf_4cfef 4 (some .int) 4 := ⟨jt_c 9 rfl, jt_w 1 rfl, ⟨by decide, by decide, by decide +kernel⟩, by decide⟩
theorem jt_mk_ioc : jt_mk yJ1_indexOfChar_4cfef cJ1_indexOfChar_4cfef 6 (some .int) 4 := ⟨jt_c 10 rfl, jt_w 1 rfl, ⟨by decide, by decide, by decide +kernel⟩, by decide⟩
theorem jt_mk_pck : jt_mk yJ3_checkIndex_8e157 cJ3_checkIndex_8e157 3 (some .int) 3 := ⟨jt_c 11 rfl, jt_w 2 rfl, ⟨by decide, by decide, by decide +kernel⟩, by decide⟩
theorem jt_lnv : ∀ j, j < 2 → Int32.ofNat (kX.2.2.1.getD j 0) >>> ((0 : Int32) &&& 31) = Int32.ofNat (kX.2.2.1.getD j 0) := by decide +kernel
theorem jt_lng {j : Nat} (hj : j < 2) : jt_C l (d + 2) yJ0_length_8abf5 cJ0_length_8abf5 1 (some .int) [.retAddr j] (some (.int (Int32.ofNat (kX.2.2.1.getD j 0)))) := by
  refine jt_meth jt_np (by decide +kernel) (Nat.le_refl _) (fun ix i h => by cases h) ?_
  intro p e R s m args below meth c D C A n0 z0 sad adV ad0 T hn hz hc
  refine jt_1 (.aload 0) hc e_len_0 rfl (fun K => rfl) ?_
  refine jt_val hj hc e_len_1 ?_
  refine jt_len hj hc e_len_4 ?_
  refine jt_1 (.aload 0) hc e_len_5 rfl (fun K => rfl) ?_
  refine jt_callV (As := []) (jt_coder hj) hj (Or.inr ⟨_, rfl⟩) hc e_len_6 jt_mk_coder rfl (jt_w 8 rfl) (jt_w 20 rfl) (jt_w 21 rfl) rfl rfl rfl ?_
  refine jt_1 (.ishr) (st' := [.int (Int32.ofNat (kX.2.2.1.getD j 0))]) hc e_len_9 rfl (fun K => by show K _ [.int (Int32.ofNat (kX.2.2.1.getD j 0) >>> ((0 : Int32) &&& 31))] _ = _; rw [jt_lnv j hj]) ?_
  exact jt_ret hc rfl e_len_10
theorem jt_pck {i n : Int32} {v : Value} (hv : v = .null ∨ v = .retAddr 4) (h1 : x_cmp .lt i 0 = false) (h2 : x_cmp .lt i n = true) : jt_C l (d + 1) yJ3_checkIndex_8e157 cJ3_checkIndex_8e157 3 (some .int) [.int i, .int n, v] (some (.int i)) := by
  rcases hv with rfl | rfl
  all_goals
    refine jt_meth jt_np (by decide +kernel) (Nat.le_refl _) (fun ix i h => by cases h) ?_
    intro p e R s m args below meth c D C A n0 z0 sad adV ad0 T hn hz hc
    refine jt_1 (.iload 0) hc e_pck_0 rfl (fun K => rfl) ?_
    refine x_o_ifc hc.1 e_pck_1 (t := 9) (by decide) (fun h => absurd h (by rw [h1]; decide)) (fun _ => ?_)
    refine jt_1 (.iload 0) hc e_pck_4 rfl (fun K => rfl) ?_
    refine jt_1 (.iload 1) hc e_pck_5 rfl (fun K => rfl) ?_
    refine x_o_icm hc.1 e_pck_6 (t := 16) (by decide) (fun _ => ?_) (fun h => absurd h (by rw [h2]; decide))
    refine jt_1 (.iload 0) hc e_pck_16 rfl (fun K => rfl) ?_
    exact jt_ret hc rfl e_pck_17
theorem jt_sad {sad' : Nat → Nat} (h : x_xs kX sad adV A s) (hs : ∀ k, k < 2 → sad' k = sad k) : x_xs kX sad' adV A s := by
  obtain ⟨h1, h2, h3, h4⟩ := h
  refine ⟨fun r hr => ?_, ⟨fun i hi => ?_, fun i j hi hj e => ?_⟩, h3, h4⟩
  · have hlt : r.2.2.2 < 2 := by
      simp only [kX, List.mem_cons, List.not_mem_nil, or_false] at hr
      rcases hr with rfl | rfl
      · decide
      · decide
    rw [hs _ hlt]
    exact h1 r hr
  · rw [hs i hi]
    exact h2.1 i hi
  · rw [hs i hi, hs j hj] at e
    exact h2.2 i j hi hj e
set_option maxHeartbeats 1000000 in
theorem jt_fmt {i n : Int32} {r : List Value} (h1 : x_cmp .lt i 0 = false) (h2 : x_cmp .lt i n = true) (hc : jt_cx p R s m args meth c cc D C A nL n0 z0 sad adV RJ0 F (d + 1) ret q) (hd1 : decode cc pc = .ok (.getstatic 1053, 3)) (hd2 : decode cc (pc + 3) = .ok (.invokestatic 1059, 3)) (hsm : Nat.ble (x_sm r) 8 = true) (k4 : x_okl T.1.length lv = true) (k5 : x_oks T.1.length r = true) (g : jt_G p l e R s m args below meth c D C A nL n0 z0 sad ad0 Q q (pc + 3 + 3) lv (.int i :: r) T) : jt_G p l e R s m args below meth c D C A nL n0 z0 sad ad0 Q q pc lv (.int n :: .int i :: r) T := by
  obtain ⟨hcx, hxs, hrt, hlk, hsd, hR1, hR2⟩ := hc
  obtain ⟨hx, hb, hml, hown, hts, hKa, hA, hF, hG, hfr, hlo, hce, hsl, har, hXT⟩ := id hcx
  obtain ⟨m1, m2, m3, m4⟩ := jt_mk_pck
  refine ⟨g.1, fun ad H locs cells slots ls e1 hP hD hS hl c1 c2 => ?_⟩
  have hlsz : ls.size = nL := by obtain ⟨lst, hl1, hl2, hl3⟩ := hl; exact hl1.1
  have hmo := g.1
  unfold x_mo at hmo
  have run : ∀ (sad' : Nat → Nat) (v : Value), (v = .null ∨ v = .retAddr 4) → (∀ k, k < 4 → sad' k = sad k) → W p l e R s m args below meth c H locs cells slots Q (F0 m (pc + 3) ls (x_val ad sad' v :: .int n :: .int i :: r.map (x_val ad sad))) := by
    intro sad' v hv hs
    have hM := jt_pck (l := l) (d := d) hv h1 h2 T ad sad' adV D C H.size (fun j hj => by rw [hs _ (by omega)]; exact hsd j hj)
    refine jt_backW (v := some (.int i)) (r := r) (a := ([.int i, .int n, v].map (x_val ad sad')).toArray) hcx (Or.inr ⟨_, rfl⟩) k4 k5 e1 hP hD hS hl c1 c2 ?_ g.2
    exact va_runS (nL := nL) (As := [.int i, .int n, v].map (x_val ad sad')) (rest := r.map (x_val ad sad)) (n := 3) ⟨hx, hb, hml, hown, hts⟩ hM ⟨(callB_of (bytes := cJ3_checkIndex_8e157) (maxL := 3) (ret := some .int) (ws' := kTs) _ hts (jt_good m1) rfl rfl rfl (hts _ m2) (hts _ (jt_w 14 rfl)) m3 ⟨hR1, by show 8 + (_ + 11) + 100 * (d + 1) ≤ _; omega⟩), hts _ (jt_w 30 rfl)⟩ ⟨x_blind, fun U hU hW => ⟨by simp, x_pre_call hKa (jt_sad hxs (fun k hk => hs k (by omega))) hA hP hD hS hU hW⟩⟩ rfl rfl hlsz rfl (lv_room (by rw [x_sm_val (sad := sad) ad]; exact Nat.le_of_ble_eq_true hsm)) hd2 ⟨by omega, by omega⟩
  rcases hxs.2.2.2 ("jdk/internal/util/Preconditions", "SIOOBE_FORMATTER", "Ljava/util/function/BiFunction;", .null) (by simp [kX]) with ⟨-, hz | ⟨t, hz⟩⟩ | hz
  · exact va_gets hx hb hz hS hown (hts _ (jt_w 7 rfl)) (fun x h => h) hd1 (run sad .null (Or.inl rfl) (fun _ _ => rfl))
  · exact va_gets hx hb hz hS hown (hts _ (jt_w 7 rfl)) (fun x h => h) hd1 (run (fun k => if k = 4 then t else sad k) (.retAddr 4) (Or.inr rfl) (fun k hk => if_neg (by omega)))
  · exact va_gets hx hb hz hS hown (hts _ (jt_w 7 rfl)) (fun x h => h) hd1 (run sad .null (Or.inl rfl) (fun _ _ => rfl))
theorem jt_chk {i n : Int32} (h1 : x_cmp .lt i 0 = false) (h2 : x_cmp .lt i n = true) : jt_C l (d + 2) yJ0_checkIndex_df160 cJ0_checkIndex_df160 2 none [.int i, .int n] none := by
  refine jt_meth jt_np (by decide +kernel) (Nat.le_refl _) (fun ix i h => by cases h) ?_
  intro p e R s m args below meth c D C A n0 z0 sad adV ad0 T hn hz hc
  refine jt_1 (.iload 0) hc e_chk_0 rfl (fun K => rfl) ?_
  refine jt_1 (.iload 1) hc e_chk_1 rfl (fun K => rfl) ?_
  refine jt_fmt h1 h2 hc e_chk_2 e_chk_5 rfl rfl rfl ?_
  refine jt_pop hc e_chk_8 ?_
  exact x_o_vret hc.1 hc.2.2.1 hc.2.2.2.1 e_chk_9
theorem jt_in {j : Nat} {i : Int32} (hj : j < 2) (h : x_in i (kX.2.2.1.getD j 0) = true) : x_cmp .lt i 0 = false ∧ x_cmp .lt i (Int32.ofNat (kX.2.2.1.getD j 0)) = true ∧ i.toNatClampNeg < kX.2.2.1.getD j 0 := by
  simp only [x_in, Bool.and_eq_true, decide_eq_true_eq] at h
  have e : (Int32.ofNat (kX.2.2.1.getD j 0)).toInt = ((kX.2.2.1.getD j 0 : Nat) : Int) := by
    match j, hj with
    | 0, _ => rfl
    | 1, _ => rfl
  refine ⟨decide_eq_false (fun hh => ?_), decide_eq_true ?_, ?_⟩
  · have h3 := Int32.lt_iff_toInt_lt.mp hh
    have h4 : (0 : Int32).toInt = 0 := rfl
    omega
  · exact Int32.lt_iff_toInt_lt.mpr (by rw [e]; exact h.2)
  · show i.toInt.toNat < _
    omega
theorem jt_byte : ∀ j, j < 2 → ∀ k, k < kX.2.2.1.getD j 0 → ((((kX.2.2.2.1.getD j []).getD k 0) &&& Int32.ofInt 255).toUInt32 % 65536).toInt32 = (kX.2.2.2.1.getD j []).getD k 0 := by decide +kernel
theorem jt_char : ∀ j, j < 2 → ∀ k, k < kX.2.2.1.getD j 0 → narrow .char (.int ((kX.2.2.2.1.getD j []).getD k 0)) = .int ((kX.2.2.2.1.getD j []).getD k 0) := by decide +kernel
theorem jt_lca {j : Nat} {i : Int32} (hj : j < 2) (hin : x_in i (kX.2.2.1.getD j 0) = true) : jt_C l (d + 3) yJ1_charAt_3b067 cJ1_charAt_3b067 2 (some .char) [.retAddr (j + 2), .int i] (some (.int ((kX.2.2.2.1.getD j []).getD i.toNatClampNeg 0))) := by
  obtain ⟨h1, h2, h3⟩ := jt_in hj hin
  refine jt_meth jt_np (by decide +kernel) (Nat.le_refl _) (fun ix i h => by cases h) ?_
  intro p e R s m args below meth c D C A n0 z0 sad adV ad0 T hn hz hc
  refine jt_1 (.iload 1) hc e_lca_0 rfl (fun K => rfl) ?_
  refine jt_1 (.aload 0) hc e_lca_1 rfl (fun K => rfl) ?_
  refine jt_len hj hc e_lca_2 ?_
  refine jt_callS (As := [.int i, .int (Int32.ofNat (kX.2.2.1.getD j 0))]) (r := []) (jt_chk h1 h2) (Or.inl rfl) hc e_lca_3 jt_mk_chk (jt_w 15 rfl) (jt_w 31 rfl) rfl rfl rfl ?_
  refine jt_1 (.aload 0) hc e_lca_6 rfl (fun K => rfl) ?_
  refine jt_1 (.iload 1) hc e_lca_7 rfl (fun K => rfl) ?_
  refine jt_bal hj hin hc e_lca_8 ?_
  refine jt_1 (.iconst 255) hc e_lca_9 rfl (fun K => rfl) ?_
  refine jt_1 (.iand) hc e_lca_12 rfl (fun K => rfl) ?_
  refine jt_1 (.i2c) (st' := [.int ((kX.2.2.2.1.getD j []).getD i.toNatClampNeg 0)]) hc e_lca_13 rfl (fun K => congrArg (fun z => K _ [.int z] _) (jt_byte j hj _ h3)) ?_
  exact jt_ret hc (jt_char j hj _ h3) e_lca_14
theorem jt_cha {j : Nat} {i : Int32} (hj : j < 2) (hin : x_in i (kX.2.2.1.getD j 0) = true) : jt_C l (d + 4) yJ0_charAt_5068e cJ0_charAt_5068e 2 (some .char) [.retAddr j, .int i] (some (.int ((kX.2.2.2.1.getD j []).getD i.toNatClampNeg 0))) := by
  obtain ⟨h1, h2, h3⟩ := jt_in hj hin
  refine jt_meth jt_np (by decide +kernel) (Nat.le_refl _) (fun ix i h => by cases h) ?_
  intro p e R s m args below meth c D C A n0 z0 sad adV ad0 T hn hz hc
  refine jt_1 (.aload 0) hc e_cha_0 rfl (fun K => rfl) ?_
  refine jt_callV (As := []) (r := []) (jt_lat hj) hj (Or.inr ⟨_, rfl⟩) hc e_cha_1 jt_mk_lat rfl (jt_w 9 rfl) (jt_w 22 rfl) (jt_w 23 rfl) rfl rfl rfl ?_
  refine x_o_ifc hc.1 e_cha_4 (t := 16) (by decide) (fun h => absurd h (by decide)) (fun _ => ?_)
  refine jt_1 (.aload 0) hc e_cha_7 rfl (fun K => rfl) ?_
  refine jt_val hj hc e_cha_8 ?_
  refine jt_1 (.iload 1) hc e_cha_11 rfl (fun K => rfl) ?_
  refine jt_callS (As := [.retAddr (j + 2), .int i]) (r := []) (jt_lca hj hin) (Or.inr ⟨_, rfl⟩) hc e_cha_12 jt_mk_lca (jt_w 10 rfl) (jt_w 28 rfl) rfl rfl rfl ?_
  exact jt_ret hc (jt_char j hj _ h3) e_cha_15
theorem jt_enc1 {i : Int32} (h1 : x_cmp .lt i 0 = false) (h2 : x_cmp .gt i (Int32.ofInt 255) = false) : jt_C l (d + 1) yJ1_canEncode_9a6ad cJ1_canEncode_9a6ad 1 (some .boolean) [.int i] (some (.int 1)) := by
  refine jt_meth jt_np (by decide +kernel) (Nat.le_refl _) (fun ix i h => by cases h) ?_
  intro p e R s m args below meth c D C A n0 z0 sad adV ad0 T hn hz hc
  refine jt_1 (.iload 0) hc e_enc_0 rfl (fun K => rfl) ?_
  refine x_o_ifc hc.1 e_enc_1 (t := 15) (by decide) (fun h => absurd h (by rw [h1]; decide)) (fun _ => ?_)
  refine jt_1 (.iload 0) hc e_enc_4 rfl (fun K => rfl) ?_
  refine jt_1 (.iconst 255) hc e_enc_5 rfl (fun K => rfl) ?_
  refine x_o_icm hc.1 e_enc_8 (t := 15) (by decide) (fun h => absurd h (by rw [h2]; decide)) (fun _ => ?_)
  refine jt_1 (.iconst 1) hc e_enc_11 rfl (fun K => rfl) ?_
  refine jt_goto hc e_enc_12 (t := 16) (by decide) ?_
  exact jt_ret hc rfl e_enc_16
theorem jt_enc0 {i : Int32} (h : x_cmp .lt i 0 = true ∨ x_cmp .gt i (Int32.ofInt 255) = true) : jt_C l (d + 1) yJ1_canEncode_9a6ad cJ1_canEncode_9a6ad 1 (some .boolean) [.int i] (some (.int 0)) := by
  refine jt_meth jt_np (by decide +kernel) (Nat.le_refl _) (fun ix i h => by cases h) ?_
  intro p e R s m args below meth c D C A n0 z0 sad adV ad0 T hn hz hc
  refine jt_1 (.iload 0) hc e_enc_0 rfl (fun K => rfl) ?_
  refine x_o_ifc hc.1 e_enc_1 (t := 15) (by decide) (fun _ => ?_) (fun h1 => ?_)
  · refine jt_1 (.iconst 0) hc e_enc_15 rfl (fun K => rfl) ?_
    exact jt_ret hc rfl e_enc_16
  · refine jt_1 (.iload 0) hc e_enc_4 rfl (fun K => rfl) ?_
    refine jt_1 (.iconst 255) hc e_enc_5 rfl (fun K => rfl) ?_
    refine x_o_icm hc.1 e_enc_8 (t := 15) (by decide) (fun _ => ?_) (fun h2 => ?_)
    · refine jt_1 (.iconst 0) hc e_enc_15 rfl (fun K => rfl) ?_
      exact jt_ret hc rfl e_enc_16
    · rcases h with h | h
      · rw [h1] at h; cases h
      · rw [h2] at h; cases h
theorem jt_idx : ∀ j, j < 2 → ∀ k, k < kX.2.2.1.getD j 0 → x_in (Int32.ofNat k) (kX.2.2.1.getD j 0) = true ∧ (Int32.ofNat k).toNatClampNeg = k ∧ x_cmp .ge (Int32.ofNat k) (Int32.ofNat (kX.2.2.1.getD j 0)) = false ∧ Int32.ofNat k + Int32.ofInt 1 = Int32.ofNat (k + 1) := by decide +kernel
/-- the answer to 'where is this byte' -/
def jt_at (j : Nat) (b res : Int32) : Prop := ((∀ k, k < kX.2.2.1.getD j 0 → (kX.2.2.2.1.getD j []).getD k 0 ≠ b) → res = -1) ∧ ∀ k, k < kX.2.2.1.getD j 0 → (kX.2.2.2.1.getD j []).getD k 0 = b → (∀ k', k' < k → (kX.2.2.2.1.getD j []).getD k' 0 ≠ b) → res = Int32.ofNat k
theorem jt_ioc {j : Nat} {i res : Int32} (hj : j < 2) (hr : jt_at j i.toInt8.toInt32 res) : jt_C l (d + 1) yJ1_indexOfChar_4cfef cJ1_indexOfChar_4cfef 6 (some .int) [.retAddr (j + 2), .int i, .int 0, .int (Int32.ofNat (kX.2.2.1.getD j 0))] (some (.int res)) := by
  refine jt_meth jt_np (by decide +kernel) (show (4 : Nat) ≤ 6 from by decide) (fun ix i h => by cases h) ?_
  intro p e R s m args below meth c D C A n0 z0 sad adV ad0 T hn hz hc
  have loop : ∀ f k : Nat, k + f = kX.2.2.1.getD j 0 → (∀ k', k' < k → (kX.2.2.2.1.getD j []).getD k' 0 ≠ i.toInt8.toInt32) → jt_G p l e R s m args below meth c D C A 6 n0 z0 sad ad0 (x_Q below args s D (x_cl kCL) C A ad0 n0 z0 (some (.int res), T)) (some (.int res), T) 7 [some (.retAddr (j + 2)), some (.int i), some (.int 0), some (.int (Int32.ofNat (kX.2.2.1.getD j 0))), some (.int i.toInt8.toInt32), some (.int (Int32.ofNat k))] [] T := by
    intro f
    induction f with
    | zero =>
      intro k hk hno
      have hk' : k = kX.2.2.1.getD j 0 := by omega
      refine jt_1 (.iload 5) hc e_ioc_7 rfl (fun K => rfl) ?_
      refine jt_1 (.iload 3) hc e_ioc_9 rfl (fun K => rfl) ?_
      refine x_o_icm hc.1 e_ioc_10 (t := 31) (by decide) (fun _ => ?_) (fun h => absurd h ?_)
      · refine jt_1 (.iconst (-1)) hc e_ioc_31 rfl (fun K => rfl) ?_
        have e := hr.1 (fun k' h' => hno k' (by omega))
        subst e
        exact jt_ret hc rfl e_ioc_32
      · rw [hk']
        simp [x_cmp]
    | succ f ih =>
      intro k hk hno
      have hkl : k < kX.2.2.1.getD j 0 := by omega
      obtain ⟨g1, g2, g3, g4⟩ := jt_idx j hj k hkl
      refine jt_1 (.iload 5) hc e_ioc_7 rfl (fun K => rfl) ?_
      refine jt_1 (.iload 3) hc e_ioc_9 rfl (fun K => rfl) ?_
      refine x_o_icm hc.1 e_ioc_10 (t := 31) (by decide) (fun h => absurd h (by rw [g3]; decide)) (fun _ => ?_)
      refine jt_1 (.aload 0) hc e_ioc_13 rfl (fun K => rfl) ?_
      refine jt_1 (.iload 5) hc e_ioc_14 rfl (fun K => rfl) ?_
      refine jt_bal hj g1 hc e_ioc_16 ?_
      rw [g2]
      refine jt_1 (.iload 4) hc e_ioc_17 rfl (fun K => rfl) ?_
      refine x_o_icm hc.1 e_ioc_19 (t := 25) (by decide) (fun h => ?_) (fun h => ?_)
      · refine jt_1 (.iinc 5 1) (lv' := [some (.retAddr (j + 2)), some (.int i), some (.int 0), some (.int (Int32.ofNat (kX.2.2.1.getD j 0))), some (.int i.toInt8.toInt32), some (.int (Int32.ofNat (k + 1)))]) hc e_ioc_25 rfl (fun K => congrArg (fun z => K [some (.retAddr (j + 2)), some (.int i), some (.int 0), some (.int (Int32.ofNat (kX.2.2.1.getD j 0))), some (.int i.toInt8.toInt32), some (.int z)] _ _) g4) ?_
        refine jt_goto hc e_ioc_28 (t := 7) (by decide) ?_
        refine ih (k + 1) (by omega) (fun k' h' => ?_)
        rcases Nat.lt_or_ge k' k with h2 | h2
        · exact hno k' h2
        · have e : k' = k := by omega
          subst e
          simpa [x_cmp] using h
      · refine jt_1 (.iload 5) hc e_ioc_22 rfl (fun K => rfl) ?_
        have e := hr.2 k hkl (by simpa [x_cmp] using h) hno
        subst e
        exact jt_ret hc rfl e_ioc_24
  refine jt_1 (.iload 1) hc e_ioc_0 rfl (fun K => rfl) ?_
  refine jt_i2b hc e_ioc_1 ?_
  refine jt_1 (.istore 4) hc e_ioc_2 rfl (fun K => rfl) ?_
  refine jt_1 (.iload 2) hc e_ioc_4 rfl (fun K => rfl) ?_
  refine jt_1 (.istore 5) hc e_ioc_5 rfl (fun K => rfl) ?_
  exact loop (kX.2.2.1.getD j 0) 0 (Nat.zero_add _) (fun k' h' => absurd h' (Nat.not_lt_zero _))
def jt_F : Nat → Option Instr := fun ix => if ix = 92 then some (.invokedynamic 0) else if ix = 38 then some (.invokedynamic 1) else none
theorem jt_F_ok (ix : Nat) (i : Instr) (h : jt_F ix = some i) (sad : Nat → Nat) (s : State) : x_lk kTs RJ1 (x_cl kCL) sad s ix i := by
  unfold jt_F at h
  split at h
  · rename_i e
    subst e
    injection h with h
    subst h
    exact ⟨jt_w 16 rfl, jt_w 32 rfl, jt_w 3 rfl, jt_c 12 rfl⟩
  · split at h
    · rename_i e
      subst e
      injection h with h
      subst h
      exact ⟨jt_w 17 rfl, jt_w 33 rfl, jt_w 3 rfl, jt_c 13 rfl⟩
    · cases h
theorem jt_pos : ∀ j, j < 2 → x_cmp .lt 0 (Int32.ofNat (kX.2.2.1.getD j 0)) = true := by decide +kernel
theorem jt_lio1 {j : Nat} {i res : Int32} (hj : j < 2) (h1 : x_cmp .lt i 0 = false) (h2 : x_cmp .gt i (Int32.ofInt 255) = false) (hr : jt_at j i.toInt8.toInt32 res) : jt_C l (d + 2) yJ1_indexOf_4cfef cJ1_indexOf_4cfef 4 (some .int) [.retAddr (j + 2), .int i, .int 0, .int (Int32.ofNat (kX.2.2.1.getD j 0))] (some (.int res)) := by
  refine jt_meth jt_F (by decide +kernel) (Nat.le_refl _) jt_F_ok ?_
  intro p e R s m args below meth c D C A n0 z0 sad adV ad0 T hn hz hc
  refine jt_1 (.iload 1) hc e_lio_0 rfl (fun K => rfl) ?_
  refine jt_callS (As := [.int i]) (r := []) (jt_enc1 h1 h2) (Or.inr ⟨_, rfl⟩) hc e_lio_1 jt_mk_enc (jt_w 18 rfl) (jt_w 34 rfl) rfl rfl rfl ?_
  refine x_o_ifc hc.1 e_lio_4 (t := 9) (by decide) (fun _ => ?_) (fun h => absurd h (by decide))
  refine jt_1 (.iload 2) hc e_lio_9 rfl (fun K => rfl) ?_
  refine jt_1 (.iconst 0) hc e_lio_10 rfl (fun K => rfl) ?_
  refine jt_1 (.invokedynamic 0) (st' := [.int 0]) hc e_lio_11 (by decide +kernel) (fun K => congrArg (fun z => K _ [.int z] _) (show (if (0 : Int32) < Int32.ofInt 0 then Int32.ofInt 0 else 0) = 0 from by decide)) ?_
  refine jt_1 (.istore 2) (lv' := [some (.retAddr (j + 2)), some (.int i), some (.int 0), some (.int (Int32.ofNat (kX.2.2.1.getD j 0)))]) hc e_lio_14 rfl (fun K => rfl) ?_
  refine jt_1 (.iload 3) hc e_lio_15 rfl (fun K => rfl) ?_
  refine jt_1 (.aload 0) hc e_lio_16 rfl (fun K => rfl) ?_
  refine jt_len hj hc e_lio_17 ?_
  refine jt_1 (.invokedynamic 1) (st' := [.int (Int32.ofNat (kX.2.2.1.getD j 0))]) hc e_lio_18 (by decide +kernel) (fun K => congrArg (fun z => K _ [.int z] _) (ite_self (Int32.ofNat (kX.2.2.1.getD j 0)))) ?_
  refine jt_1 (.istore 3) (lv' := [some (.retAddr (j + 2)), some (.int i), some (.int 0), some (.int (Int32.ofNat (kX.2.2.1.getD j 0)))]) hc e_lio_21 rfl (fun K => rfl) ?_
  refine jt_1 (.iload 2) hc e_lio_22 rfl (fun K => rfl) ?_
  refine jt_1 (.iload 3) hc e_lio_23 rfl (fun K => rfl) ?_
  refine x_o_icm hc.1 e_lio_24 (t := 29) (by decide) (fun _ => ?_) (fun h => absurd h (by rw [jt_pos j hj]; decide))
  refine jt_1 (.aload 0) hc e_lio_29 rfl (fun K => rfl) ?_
  refine jt_1 (.iload 1) hc e_lio_30 rfl (fun K => rfl) ?_
  refine jt_1 (.iload 2) hc e_lio_31 rfl (fun K => rfl) ?_
  refine jt_1 (.iload 3) hc e_lio_32 rfl (fun K => rfl) ?_
  refine jt_callS (As := [.retAddr (j + 2), .int i, .int 0, .int (Int32.ofNat (kX.2.2.1.getD j 0))]) (r := []) (jt_ioc hj hr) (Or.inr ⟨_, rfl⟩) hc e_lio_33 jt_mk_ioc (jt_w 19 rfl) (jt_w 35 rfl) rfl rfl rfl ?_
  exact jt_ret hc rfl e_lio_36
theorem jt_lio0 {j : Nat} {i : Int32} (h : x_cmp .lt i 0 = true ∨ x_cmp .gt i (Int32.ofInt 255) = true) : jt_C l (d + 2) yJ1_indexOf_4cfef cJ1_indexOf_4cfef 4 (some .int) [.retAddr (j + 2), .int i, .int 0, .int (Int32.ofNat (kX.2.2.1.getD j 0))] (some (.int (-1))) := by
  refine jt_meth jt_F (by decide +kernel) (Nat.le_refl _) jt_F_ok ?_
  intro p e R s m args below meth c D C A n0 z0 sad adV ad0 T hn hz hc
  refine jt_1 (.iload 1) hc e_lio_0 rfl (fun K => rfl) ?_
  refine jt_callS (As := [.int i]) (r := []) (jt_enc0 h) (Or.inr ⟨_, rfl⟩) hc e_lio_1 jt_mk_enc (jt_w 18 rfl) (jt_w 34 rfl) rfl rfl rfl ?_
  refine x_o_ifc hc.1 e_lio_4 (t := 9) (by decide) (fun h => absurd h (by decide)) (fun _ => ?_)
  refine jt_1 (.iconst (-1)) hc e_lio_7 rfl (fun K => rfl) ?_
  exact jt_ret hc rfl e_lio_8
theorem jt_io2 {j : Nat} {i res : Int32} (hj : j < 2) (hC : jt_C l (d + 2) yJ1_indexOf_4cfef cJ1_indexOf_4cfef 4 (some .int) [.retAddr (j + 2), .int i, .int 0, .int (Int32.ofNat (kX.2.2.1.getD j 0))] (some (.int res))) : jt_C l (d + 3) yJ0_indexOf_7cf53 cJ0_indexOf_7cf53 3 (some .int) [.retAddr j, .int i, .int 0] (some (.int res)) := by
  refine jt_meth jt_np (by decide +kernel) (Nat.le_refl _) (fun ix i h => by cases h) ?_
  intro p e R s m args below meth c D C A n0 z0 sad adV ad0 T hn hz hc
  refine jt_1 (.aload 0) hc e_io2_0 rfl (fun K => rfl) ?_
  refine jt_callV (As := []) (r := []) (jt_lat hj) hj (Or.inr ⟨_, rfl⟩) hc e_io2_1 jt_mk_lat rfl (jt_w 9 rfl) (jt_w 22 rfl) (jt_w 23 rfl) rfl rfl rfl ?_
  refine x_o_ifc hc.1 e_io2_4 (t := 23) (by decide) (fun h => absurd h (by decide)) (fun _ => ?_)
  refine jt_1 (.aload 0) hc e_io2_7 rfl (fun K => rfl) ?_
  refine jt_val hj hc e_io2_8 ?_
  refine jt_1 (.iload 1) hc e_io2_11 rfl (fun K => rfl) ?_
  refine jt_1 (.iload 2) hc e_io2_12 rfl (fun K => rfl) ?_
  refine jt_1 (.aload 0) hc e_io2_13 rfl (fun K => rfl) ?_
  refine jt_callV (As := []) (jt_lng hj) hj (Or.inr ⟨_, rfl⟩) hc e_io2_14 jt_mk_len rfl (jt_w 11 rfl) (jt_w 24 rfl) (jt_w 25 rfl) rfl rfl rfl ?_
  refine jt_callS (As := [.retAddr (j + 2), .int i, .int 0, .int (Int32.ofNat (kX.2.2.1.getD j 0))]) (r := []) hC (Or.inr ⟨_, rfl⟩) hc e_io2_17 jt_mk_lio (jt_w 12 rfl) (jt_w 29 rfl) rfl rfl rfl ?_
  refine jt_goto hc e_io2_20 (t := 36) (by decide) ?_
  exact jt_ret hc rfl e_io2_36
theorem jt_io1 {j : Nat} {i res : Int32} (hj : j < 2) (hC : jt_C l (d + 2) yJ1_indexOf_4cfef cJ1_indexOf_4cfef 4 (some .int) [.retAddr (j + 2), .int i, .int 0, .int (Int32.ofNat (kX.2.2.1.getD j 0))] (some (.int res))) : jt_C l (d + 4) yJ0_indexOf_0f7a4 cJ0_indexOf_0f7a4 2 (some .int) [.retAddr j, .int i] (some (.int res)) := by
  refine jt_meth jt_np (by decide +kernel) (Nat.le_refl _) (fun ix i h => by cases h) ?_
  intro p e R s m args below meth c D C A n0 z0 sad adV ad0 T hn hz hc
  refine jt_1 (.aload 0) hc e_io1_0 rfl (fun K => rfl) ?_
  refine jt_1 (.iload 1) hc e_io1_1 rfl (fun K => rfl) ?_
  refine jt_1 (.iconst 0) hc e_io1_2 rfl (fun K => rfl) ?_
  refine jt_callV (As := [.int i, .int 0]) (r := []) (jt_io2 hj hC) hj (Or.inr ⟨_, rfl⟩) hc e_io1_3 jt_mk_io2 rfl (jt_w 13 rfl) (jt_w 26 rfl) (jt_w 27 rfl) rfl rfl rfl ?_
  exact jt_ret hc rfl e_io1_6
/-- out of an inner contract the small machine's -/
theorem jt_to {μ : Nat} {y : MethodName} {bytes : ByteArray} {maxL : Nat} {vs : List Value} {r : Option Value} (hμ : x_Mf kML μ = (y, bytes, maxL, ret)) (hC : jt_C l d y bytes maxL ret vs r) (hvs : ∀ sad sad' ad : Nat → Nat, (∀ k, k < 2 → sad' k = sad k) → vs.map (x_val ad sad') = vs.map (x_val ad sad)) : x_C l (x_cl kCL) kX kTs (x_Mf kML) d μ vs T (r, T) := by
  refine ⟨⟨Nat.le_refl _, Nat.le_refl _⟩, fun ad sad adV D C sz => ?_⟩
  have h := hC T ad (fun k => if k < 2 then sad k else adV (k - 2)) adV D C sz (fun j hj => if_neg (by omega))
  rw [hvs sad _ ad (fun k hk => if_pos hk)] at h
  have e : x_pre D (x_cl kCL) C kX ad (fun k => if k < 2 then sad k else adV (k - 2)) adV T sz = x_pre D (x_cl kCL) C kX ad sad adV T sz := by
    funext U
    refine propext ⟨fun hh => ⟨hh.1, hh.2.1, hh.2.2.1, hh.2.2.2.1, jt_sad hh.2.2.2.2 (fun k hk => (if_pos hk).symm)⟩, fun hh => ⟨hh.1, hh.2.1, hh.2.2.1, hh.2.2.2.1, jt_sad hh.2.2.2.2 (fun k hk => if_pos hk)⟩⟩
  rw [e] at h
  unfold x_ws
  rw [hμ]
  exact h
end JX
theorem jt_gd {L : List Int32} {k : Nat} (hk : k < L.length) : L.getD k 0 = L[k] := by
  rw [List.getD, List.getElem?_eq_getElem hk]
  rfl
theorem jt_find {L : List Int32} {i : Int32} : ((∀ k, k < L.length → L.getD k 0 ≠ i) → L.findIdx? (fun c => c == i) = none) ∧ ∀ k, k < L.length → L.getD k 0 = i → (∀ k', k' < k → L.getD k' 0 ≠ i) → L.findIdx? (fun c => c == i) = some k := by
  refine ⟨fun h => ?_, fun k hk h1 h2 => ?_⟩
  · rw [List.findIdx?_eq_none_iff]
    intro x hx
    obtain ⟨k, hk, rfl⟩ := List.getElem_of_mem hx
    have h3 := h k hk
    rw [jt_gd hk] at h3
    simpa using h3
  · rw [List.findIdx?_eq_some_iff_getElem]
    refine ⟨hk, ?_, fun k' hk' => ?_⟩
    · rw [jt_gd hk] at h1
      simpa using h1
    · have h3 := h2 k' hk'
      rw [jt_gd (show k' < L.length by omega)] at h3
      simpa using h3
theorem jt_ll : ∀ j, j < 2 → (kX.2.2.2.1.getD j []).length = kX.2.2.1.getD j 0 := by decide +kernel
theorem jt_lo : ∀ j, j < 2 → ∀ k, k < kX.2.2.1.getD j 0 → x_cmp .lt ((kX.2.2.2.1.getD j []).getD k 0) 0 = false ∧ x_cmp .gt ((kX.2.2.2.1.getD j []).getD k 0) (Int32.ofInt 255) = false := by decide +kernel
theorem jt_bb : ∀ j, j < 2 → ∀ n, n < 256 → ∀ k, k < kX.2.2.1.getD j 0 → (((kX.2.2.2.1.getD j []).getD k 0 = (Int32.ofNat n).toInt8.toInt32) ↔ ((kX.2.2.2.1.getD j []).getD k 0 = Int32.ofNat n)) := by decide +kernel
theorem jt_n {i : Int32} (h1 : x_cmp .lt i 0 = false) (h2 : x_cmp .gt i (Int32.ofInt 255) = false) : ∃ n, n < 256 ∧ i = Int32.ofNat n := by
  have h3 : ¬ i < 0 := of_decide_eq_false h1
  have h4 : ¬ Int32.ofInt 255 < i := of_decide_eq_false h2
  rw [Int32.lt_iff_toInt_lt] at h3 h4
  have e0 : (0 : Int32).toInt = 0 := rfl
  have e1 : (Int32.ofInt 255).toInt = 255 := rfl
  rw [e0] at h3
  rw [e1] at h4
  refine ⟨i.toInt.toNat, by omega, ?_⟩
  apply Int32.toInt_inj.mp
  rw [Int32.toInt_ofNat_of_lt (by omega)]
  omega
theorem jt_res {l : Launch} {d j : Nat} {i : Int32} (hj : j < 2) : jt_C l (d + 4) yJ0_indexOf_0f7a4 cJ0_indexOf_0f7a4 2 (some .int) [.retAddr j, .int i] (some (.int (match (kX.2.2.2.1.getD j []).findIdx? (fun c => c == i) with | some k => Int32.ofNat k | none => -1))) := by
  have hL := jt_ll j hj
  obtain ⟨f1, f2⟩ := jt_find (L := kX.2.2.2.1.getD j []) (i := i)
  rw [hL] at f1 f2
  by_cases h : x_cmp .lt i 0 = true ∨ x_cmp .gt i (Int32.ofInt 255) = true
  · have e := f1 (fun k hk hh => by
      have h5 := jt_lo j hj k hk
      rw [hh] at h5
      rcases h with h | h
      · rw [h5.1] at h; cases h
      · rw [h5.2] at h; cases h)
    rw [e]
    exact jt_io1 hj (jt_lio0 h)
  · have h1 : x_cmp .lt i 0 = false := by
      cases hh : x_cmp .lt i 0 with
      | true => exact absurd (Or.inl hh) h
      | false => rfl
    have h2 : x_cmp .gt i (Int32.ofInt 255) = false := by
      cases hh : x_cmp .gt i (Int32.ofInt 255) with
      | true => exact absurd (Or.inr hh) h
      | false => rfl
    obtain ⟨n, hn, rfl⟩ := jt_n h1 h2
    refine jt_io1 hj (jt_lio1 hj h1 h2 ⟨fun hno => ?_, fun k hk hb hno => ?_⟩)
    · rw [f1 (fun k hk hh => hno k hk ((jt_bb j hj n hn k hk).mpr hh))]
    · rw [f2 k hk ((jt_bb j hj n hn k hk).mp hb) (fun k' hk' hh => hno k' hk' ((jt_bb j hj n hn k' (by omega)).mpr hh))]
set_option maxRecDepth 100000 in
theorem jt_M0 : x_Mf kML 1000 = (yJ0_length_8abf5, cJ0_length_8abf5, 1, some .int) := by rfl
set_option maxRecDepth 100000 in
theorem jt_M1 : x_Mf kML 1001 = (yJ0_charAt_5068e, cJ0_charAt_5068e, 2, some .char) := by rfl
set_option maxRecDepth 100000 in
theorem jt_M2 : x_Mf kML 1002 = (yJ0_indexOf_0f7a4, cJ0_indexOf_0f7a4, 2, some .int) := by rfl
/-- THE TEXTS' OWN METHODS do as kSO says -/
theorem k_so {l : Launch} : ∀ (μ : Nat) (vs : List Value) (T : x_T) (q : Option Value × x_T), kSO μ vs T = some q → x_mo T q.2 ∧ ∀ d, 8 ≤ d → x_C l (x_cl kCL) kX kTs (x_Mf kML) (d + 1) μ vs T q := by
  intro μ vs T q h
  unfold kSO at h
  split at h
  · rename_i j
    split at h
    · rename_i hh
      obtain ⟨rfl, hj⟩ := hh
      injection h with h
      subst h
      refine ⟨⟨Nat.le_refl _, Nat.le_refl _⟩, fun d hd => ?_⟩
      obtain ⟨k, rfl⟩ : ∃ k, d = k + 1 := ⟨d - 1, by omega⟩
      exact jt_to jt_M0 (jt_lng hj) (fun sad sad' ad hs => by simp [x_val, hs j hj])
    · cases h
  · rename_i j i
    split at h
    · rename_i hj
      split at h
      · rename_i hμ
        subst hμ
        split at h
        · rename_i hin
          injection h with h
          subst h
          refine ⟨⟨Nat.le_refl _, Nat.le_refl _⟩, fun d hd => ?_⟩
          obtain ⟨k, rfl⟩ : ∃ k, d = k + 3 := ⟨d - 3, by omega⟩
          exact jt_to jt_M1 (jt_cha hj hin) (fun sad sad' ad hs => by simp [x_val, hs j hj])
        · cases h
      · split at h
        · rename_i hμ
          subst hμ
          injection h with h
          subst h
          refine ⟨⟨Nat.le_refl _, Nat.le_refl _⟩, fun d hd => ?_⟩
          obtain ⟨k, rfl⟩ : ∃ k, d = k + 3 := ⟨d - 3, by omega⟩
          exact jt_to jt_M2 (jt_res hj) (fun sad sad' ad hs => by simp [x_val, hs j hj])
        · cases h
    · cases h
  · cases h
