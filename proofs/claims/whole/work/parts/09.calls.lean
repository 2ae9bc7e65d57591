section X9
variable {p : Program} {l : Launch} {e : Env} {R : Room} {s : State} {m : MethodId} {args : Array Value} {below : List Frame} {meth : Method} {c : Code} {Q : State → Prop} {cc : ByteArray} {D : va_G} {cl : List vw_C} {C : FieldType → ClassId} {A : Nat → Prop} {nL n0 z0 : Nat} {sad ad0 : Nat → Nat} {own : String} {Ts : List Cond} {F Gp : Nat → Option Instr} {pc len : Nat} {lv lv' : x_L} {st st' : List Value} {T T' : x_T} {q : Option Value × x_T} {K : x_L → List Value → x_T → x_Z} {raw res : Instr} {XT : x_Xt} {E : x_E} {O : Nat → List Value → x_T → x_Z} {B : Nat → x_L → x_T → x_Z} {tab : x_R} {X : x_X} {M : x_M} {adV : Nat → Nat} {d j : Nat} {ret : Option FieldType} {Ts0 : List Cond}
/-- the end of a method's walk -/
def x_Q (below : List Frame) (args : Array Value) (s : State) (D : va_G) (cl : List vw_C) (C : FieldType → ClassId) (A : Nat → Prop) (ad : Nat → Nat) (n z : Nat) (q : Option Value × x_T) : State → Prop := MQ below (x_post D cl C A ad n q) args s (q.2.1.length - n) (x_z q.2.1 - z) A
theorem x_o_vret  (hc : x_cx p R s m args meth c cc D cl C A nL n0 z0 sad own Ts F Gp XT (none, T)) (hr : meth.sig.returnType = none) (hlk : meth.locks = false) (hdg : decode cc pc = .ok (.return_, 1)) : x_mo T T ∧ x_G p l e R s m args below meth c D cl C A nL n0 z0 sad ad0 (x_Q below args s D cl C A ad0 n0 z0 (none, T)) pc lv [] T := by
  obtain ⟨hx, hb, hml, hown, hts, hKa, hA, hF, hG, hfr, hlo, hce, hsl, har, hXT⟩ := id hc
  refine ⟨⟨Nat.le_refl _, Nat.le_refl _⟩, fun ad H locs cells slots ls e1 hP hD hS hl c1 c2 => ?_⟩
  obtain rfl : cells = T.1.length - n0 := by omega
  obtain rfl : slots = x_z T.1 - z0 := by omega
  refine W.vret hx hb hr ?_ hS.2.2 hdg hlk
  intro t ht hw
  exact ⟨⟨ad, rfl, e1, ⟨by rw [ht]; exact hP, va_K.moved hw.alike hKa, hD⟩⟩, hS.F ht⟩
theorem x_o_iret {v : Int32} (hc : x_cx p R s m args meth c cc D cl C A nL n0 z0 sad own Ts F Gp XT (some (.int v), T)) (hr : meth.sig.returnType = some .int) (hlk : meth.locks = false) (hdg : decode cc pc = .ok (.ireturn, 1)) : x_mo T T ∧ x_G p l e R s m args below meth c D cl C A nL n0 z0 sad ad0 (x_Q below args s D cl C A ad0 n0 z0 (some (.int v), T)) pc lv [.int v] T := by
  obtain ⟨hx, hb, hml, hown, hts, hKa, hA, hF, hG, hfr, hlo, hce, hsl, har, hXT⟩ := id hc
  refine ⟨⟨Nat.le_refl _, Nat.le_refl _⟩, fun ad H locs cells slots ls e1 hP hD hS hl c1 c2 => ?_⟩
  obtain rfl : cells = T.1.length - n0 := by omega
  obtain rfl : slots = x_z T.1 - z0 := by omega
  refine W.iret hx hb hr ?_ hS.2.2 hdg hlk
  intro t ht hw
  exact ⟨⟨v, ad, rfl, ⟨rfl, e1⟩, ⟨by rw [ht]; exact hP, va_K.moved hw.alike hKa, hD⟩⟩, hS.F ht⟩
theorem x_o_zret {v : Int32} (hc : x_cx p R s m args meth c cc D cl C A nL n0 z0 sad own Ts F Gp XT (some (.int v), T)) (hr : meth.sig.returnType = some .boolean) (hlk : meth.locks = false) (hv : narrow .boolean (.int v) = .int v) (hdg : decode cc pc = .ok (.ireturn, 1)) : x_mo T T ∧ x_G p l e R s m args below meth c D cl C A nL n0 z0 sad ad0 (x_Q below args s D cl C A ad0 n0 z0 (some (.int v), T)) pc lv [.int v] T := by
  obtain ⟨hx, hb, hml, hown, hts, hKa, hA, hF, hG, hfr, hlo, hce, hsl, har, hXT⟩ := id hc
  refine ⟨⟨Nat.le_refl _, Nat.le_refl _⟩, fun ad H locs cells slots ls e1 hP hD hS hl c1 c2 => ?_⟩
  obtain rfl : cells = T.1.length - n0 := by omega
  obtain rfl : slots = x_z T.1 - z0 := by omega
  refine W.zret hx hb hr hv ?_ hS.2.2 hdg hlk
  intro t ht hw
  exact ⟨⟨v, ad, rfl, ⟨rfl, e1⟩, ⟨by rw [ht]; exact hP, va_K.moved hw.alike hKa, hD⟩⟩, hS.F ht⟩
theorem x_o_lret {v : Int64} (hc : x_cx p R s m args meth c cc D cl C A nL n0 z0 sad own Ts F Gp XT (some (.long v), T)) (hr : meth.sig.returnType = some .long) (hlk : meth.locks = false) (hdg : decode cc pc = .ok (.lreturn, 1)) : x_mo T T ∧ x_G p l e R s m args below meth c D cl C A nL n0 z0 sad ad0 (x_Q below args s D cl C A ad0 n0 z0 (some (.long v), T)) pc lv [.long v] T := by
  obtain ⟨hx, hb, hml, hown, hts, hKa, hA, hF, hG, hfr, hlo, hce, hsl, har, hXT⟩ := id hc
  refine ⟨⟨Nat.le_refl _, Nat.le_refl _⟩, fun ad H locs cells slots ls e1 hP hD hS hl c1 c2 => ?_⟩
  obtain rfl : cells = T.1.length - n0 := by omega
  obtain rfl : slots = x_z T.1 - z0 := by omega
  refine W.lret hx hb hr ?_ hS.2.2 hdg hlk
  intro t ht hw
  exact ⟨⟨v, ad, rfl, ⟨rfl, e1⟩, ⟨by rw [ht]; exact hP, va_K.moved hw.alike hKa, hD⟩⟩, hS.F ht⟩
set_option maxHeartbeats 1000000 in
theorem x_o_new {ix ci : Nat} (hc : x_cx p R s m args meth c cc D cl C A nL n0 z0 sad own Ts F Gp XT q) (hl2 : x_l2 Ts E M X own cl ix (.new ci)) (hdg : decode cc pc = .ok (.new ix, 3)) (k4 : x_okl T.1.length lv = true) (k5 : x_oks T.1.length st = true) (k6 : x_okT T.1.length T.1 = true) (g : x_mo (x_new T (.inr (ci, E.1 ci))) q.2 ∧ x_G p l e R s m args below meth c D cl C A nL n0 z0 sad ad0 Q (pc + 3) lv (.ref T.1.length :: st) (x_new T (.inr (ci, E.1 ci)))) : x_mo T q.2 ∧ x_G p l e R s m args below meth c D cl C A nL n0 z0 sad ad0 Q pc lv st T := by
  obtain ⟨hx, hb, hml, hown, hts, hKa, hA, hF, hG, hfr, hlo, hce, hsl, har, hXT⟩ := id hc
  obtain ⟨Cn, Tn, N, ty0, hcl, hin, hty, hlk, hinst, hini, hlen, hdf⟩ := hl2
  have hmo := g.1
  unfold x_mo at hmo
  have hl1 : (x_new T (.inr (ci, E.1 ci))).1.length = T.1.length + 1 := by simp [x_new]
  have hz1 : x_z (x_new T (.inr (ci, E.1 ci))).1 = x_z T.1 + N := by simp [x_new, x_z_app, x_z, x_z1, hlen]
  rw [hl1, hz1] at hmo
  refine ⟨⟨by omega, by omega⟩, fun ad H locs cells slots ls e1 hP hD hS hl c1 c2 => ?_⟩
  have hsame : ∀ ad' : Nat → Nat, (E.1 ci).mapIdx (fun k r => x_fv ad' (fun _ => 0) k r) = (E.1 ci).mapIdx (fun k r => x_fv ad (fun _ => 0) k r) := by
    intro ad'
    apply List.ext_getElem?
    intro i
    rw [List.getElem?_mapIdx, List.getElem?_mapIdx]
    rcases Nat.lt_or_ge i N with hi | hi
    · rcases hdf i hi with ⟨h1, -⟩ | ⟨h1, -⟩
      · rw [h1]; rfl
      · rw [h1]; rfl
    · rw [List.getElem?_eq_none (by omega)]; rfl
  refine va_new (ci := ci) (fs := (E.1 ci).mapIdx (fun k r => x_fv ad (fun _ => 0) k r)) hx hb hts hin ty0 hty hown (hts _ hlk) (hts _ hinst) (hts _ hini) hKa hP hD hS hA hcl (fun j hj => ?_) (by omega) (by omega) hdg (fun q' H1 hP1 hD1 hS1 => ?_)
  · rcases hdf j hj with ⟨h1, h2 | h2⟩ | ⟨h1, ⟨n, h2⟩ | ⟨n, h2⟩⟩
    · simp [vp_V, List.getD, List.getElem?_mapIdx, h1, h2, x_fv, defaultValue]
    · simp [vp_V, List.getD, List.getElem?_mapIdx, h1, h2, x_fv, defaultValue]
    · simp [vp_V, List.getD, List.getElem?_mapIdx, h1, h2, x_fv, defaultValue]
    · simp [vp_V, List.getD, List.getElem?_mapIdx, h1, h2, x_fv, defaultValue]
  · have hWn := x_W_new (ad := ad) (C := C) (T := T) (sh := .inr (ci, E.1 ci)) (q := q') k6
    simp only [x_ent] at hWn
    rw [hsame] at hWn
    rw [← hWn] at hP1 hD1
    have hex : ∀ i, i < T.1.length → va_up ad T.1.length q' i = ad i := fun i hi => x_up_n _ _ (by omega)
    have hg := g.2 (va_up ad T.1.length q') H1 locs (cells + 1) (slots + N) ls (fun i hi => by rw [hex i (by omega)]; exact e1 i hi) hP1 hD1 hS1 (x_ls_ex hex k4 hl) (by rw [hl1]; omega) (by rw [hz1]; omega)
    simp only [List.map_cons, x_val, x_up_s] at hg
    rw [x_st_ex hex k5] at hg
    exact hg
theorem x_A_sub {ad : Nat → Nat} {H : Heap} {locs : List Loc} (hA : ∀ q, s.heap.size ≤ q → A q) (hD : va_D A (x_W ad C T)) (hS : va_S A s.heap H locs) : ∀ q, va_A (x_W ad C T) H.size q → A q := by
  intro q h
  rcases h with ⟨k, e, h⟩ | h
  · exact hD.2 k (q, e) h
  · exact hA q (Nat.le_trans hS.1 h)
theorem x_xs_call {ad : Nat → Nat} {H : Heap} {locs : List Loc} (hxs : x_xs X sad adV A s) (hA : ∀ q, s.heap.size ≤ q → A q) (hD : va_D A (x_W ad C T)) (hS : va_S A s.heap H locs) {U : State} (hU : U.heap = H) (hW : s.WarmedH U.vm) : x_xs X sad adV (va_A (x_W ad C T) H.size) U := by
  obtain ⟨h1, h2, h3, h4⟩ := hxs
  refine ⟨fun r hr => vk_R.warm hW (h1 r hr), ?_, fun r hr => va_Nw.warmM hW (h3 r hr), fun r hr => ?_⟩
  rotate_left
  · rw [hU]
    exact x_zs.moved hW.alike (x_zs.narrow (x_zs.kept (h4 r hr) (fun a ha hn => hS.2.1 a ha hn)) (x_A_sub hA hD hS))
  rw [hU]
  exact vk_S.moved hW.alike (vk_S.narrow (vk_S.kept h2 (fun a ha hn => hS.2.1 a ha hn)) (x_A_sub hA hD hS))
theorem x_blind {ad : Nat → Nat} {vs : List Value} {sz : Nat} : FrameBlind (va_Pc vs (x_pre D cl C X ad sad adV T sz)) := by
  intro a U g mk h
  obtain ⟨h0, h1, h2, h3, h4, h5, h6, h7, h8⟩ := h
  exact ⟨h0, h1, h2, va_K.moved (u := U) (U := U.calling g mk a) (Vm.Alike.refl U.vm) h3, h4, fun r hr => vk_R.same (u := U) rfl (h5 r hr), vk_S.moved (u := U) (U := U.calling g mk a) (Vm.Alike.refl U.vm) h6, fun r hr => va_Nw.same rfl (u := U) rfl (h7 r hr), fun r hr => x_zs.moved (u := U) (U := U.calling g mk a) (Vm.Alike.refl U.vm) (h8 r hr)⟩
theorem x_pre_call {ad : Nat → Nat} {H : Heap} {locs : List Loc} (hKa : va_K D cl (x_tys C) s) (hxs : x_xs X sad adV A s) (hA : ∀ q, s.heap.size ≤ q → A q) (hP : va_P D cl (x_W ad C T) H) (hD : va_D A (x_W ad C T)) (hS : va_S A s.heap H locs) {U : State} (hU : U.heap = H) (hW : s.WarmedH U.vm) : x_pre D cl C X ad sad adV T H.size U :=
  ⟨by rw [hU], by rw [hU]; exact hP, va_K.moved hW.alike hKa, hD.weaken (fun _ _ _ _ => trivial), x_xs_call hxs hA hD hS hU hW⟩
set_option maxHeartbeats 1000000 in
/-- behind a call -/
theorem x_back {q1 : Option Value × x_T} {μ : Nat} {vs r : List Value} (hc : x_cx p R s m args meth c cc D cl C A nL n0 z0 sad own Ts F Gp XT q) (hC : x_C l cl X Ts0 M d μ vs T q1) (k4 : x_okl T.1.length lv = true) (k5 : x_oks T.1.length r = true) (hrun : ∀ (ad : Nat → Nat) (H : Heap) (locs : List Loc) (cells slots : Nat) (ls : Array Slot), (∀ i, i < n0 → ad i = ad0 i) → va_P D cl (x_W ad C T) H → va_D A (x_W ad C T) → va_S A s.heap H locs → x_ls ad sad ls nL lv → cells + (q1.2.1.length - T.1.length) ≤ R.cells ∧ slots + (x_z q1.2.1 - x_z T.1) ≤ R.slots → va_Run p l e R s m args below meth c H locs cells slots (q1.2.1.length - T.1.length) (x_z q1.2.1 - x_z T.1) (F0 m pc ls (st.map (x_val ad sad))) (r.map (x_val ad sad)) (x_post D cl C (va_A (x_W ad C T) H.size) ad T.1.length q1 (vs.map (x_val ad sad)).toArray) (va_A (x_W ad C T) H.size)) (g : x_mo q1.2 q.2 ∧ x_G p l e R s m args below meth c D cl C A nL n0 z0 sad ad0 Q (pc + 3) lv (q1.1.toList ++ r) q1.2) : x_mo T q.2 ∧ x_G p l e R s m args below meth c D cl C A nL n0 z0 sad ad0 Q pc lv st T := by
  obtain ⟨hx, hb, hml, hown, hts, hKa, hA, hF, hG, hfr, hlo, hce, hsl, har, hXT⟩ := id hc
  have hm1 := hC.1
  have hm2 := g.1
  have hmo : x_mo T q.2 := ⟨Nat.le_trans hm1.1 hm2.1, Nat.le_trans hm1.2 hm2.2⟩
  refine ⟨hmo, fun ad H locs cells slots ls e1 hP hD hS hl c1 c2 => ?_⟩
  unfold x_mo at hm1 hm2
  have hr := hrun ad H locs cells slots ls e1 hP hD hS hl ⟨by omega, by omega⟩
  have hsub := x_A_sub (C := C) hA hD hS
  have go : ∀ (ad' : Nat → Nat) (t : State) (H1 : Heap) (locs1 : List Loc), t.heap = H1 → (∀ i, i < T.1.length → ad' i = ad i) → x_B D cl C (va_A (x_W ad C T) H.size) q1.2 ad' t → va_S A s.heap H1 locs1 → W p l e R s m args below meth c H1 locs1 (cells + (q1.2.1.length - T.1.length)) (slots + (x_z q1.2.1 - x_z T.1)) Q (F0 m (pc + 3) ls ((q1.1.toList ++ r).map (x_val ad' sad))) := by
    intro ad' t H1 locs1 ht hex hB hS1
    obtain ⟨b1, b2, b3⟩ := hB
    rw [ht] at b1
    exact g.2 ad' H1 locs1 _ _ ls (fun i hi => by rw [hex i (by omega)]; exact e1 i hi) b1 (b3.weaken (fun _ _ _ h => hsub _ h)) hS1 (x_ls_ex hex k4 hl) (by omega) (by omega)
  obtain ⟨v, T1⟩ := q1
  match v, hr, go with
  | none, hr, go =>
    refine va_callv (a := (vs.map (x_val ad sad)).toArray) hr hS (fun q _ h => hsub q h) hsub (fun ad' t H1 locs1 ht hvm hw hB hz1 hk1 hS1 => ?_)
    have hgo := go ad' t H1 locs1 ht hw hB hS1
    simp only [Option.toList_none, List.nil_append] at hgo
    rw [x_st_ex hw k5] at hgo
    exact hgo
  | some (.int x), hr, go =>
    refine va_calli (a := (vs.map (x_val ad sad)).toArray) hr hS (fun q _ h => hsub q h) hsub (fun x' ad' t H1 locs1 ht hvm hw hB hz1 hk1 hS1 => ?_)
    obtain ⟨rfl, hw⟩ := hw
    have hgo := go ad' t H1 locs1 ht hw hB hS1
    simp only [Option.toList_some, List.cons_append, List.nil_append, List.map_cons, x_val] at hgo
    rw [x_st_ex hw k5] at hgo
    exact hgo
  | some (.long x), hr, go =>
    refine va_calll (a := (vs.map (x_val ad sad)).toArray) hr hS (fun q _ h => hsub q h) hsub (fun x' ad' t H1 locs1 ht hvm hw hB hz1 hk1 hS1 => ?_)
    obtain ⟨rfl, hw⟩ := hw
    have hgo := go ad' t H1 locs1 ht hw hB hS1
    simp only [Option.toList_some, List.cons_append, List.nil_append, List.map_cons, x_val] at hgo
    rw [x_st_ex hw k5] at hgo
    exact hgo
  | some .null, hr, go =>
    intro T2 hT2 X2
    obtain ⟨v, s1, t, T3, L, h1, h2, h3, h4, h5, h6, h7⟩ := hr T2 hT2 X2
    exact h6.elim
  | some (.ref _), hr, go =>
    intro T2 hT2 X2
    obtain ⟨v, s1, t, T3, L, h1, h2, h3, h4, h5, h6, h7⟩ := hr T2 hT2 X2
    exact h6.elim
  | some (.float _), hr, go =>
    intro T2 hT2 X2
    obtain ⟨v, s1, t, T3, L, h1, h2, h3, h4, h5, h6, h7⟩ := hr T2 hT2 X2
    exact h6.elim
  | some (.double _), hr, go =>
    intro T2 hT2 X2
    obtain ⟨v, s1, t, T3, L, h1, h2, h3, h4, h5, h6, h7⟩ := hr T2 hT2 X2
    exact h6.elim
  | some (.retAddr _), hr, go =>
    intro T2 hT2 X2
    obtain ⟨v, s1, t, T3, L, h1, h2, h3, h4, h5, h6, h7⟩ := hr T2 hT2 X2
    exact h6.elim
set_option maxHeartbeats 1000000 in
theorem x_o_callV {ix μ b : Nat} {As r : List Value} {q1 : Option Value × x_T} {ci : Nat} {fs : List (Option Nat)} (hc : x_cx p R s m args meth c cc D cl C A nL n0 z0 sad own Ts F Gp XT q) (hl2 : x_l2 Ts E M X own cl ix (.invokevirtual μ)) (hxs : x_xs X sad adV A s) (hGi : GoodIn Ts (x_ws Ts0 M μ)) (hdg : decode cc pc = .ok (.invokevirtual ix, 3)) (hC : x_C l cl X Ts0 M d μ (.ref b :: As) T q1) (hn : As.length = (E.2.1 μ).1) (hsh : T.1[b]? = some (.inr (ci, fs))) (hci : ci = (E.2.1 μ).2) (hsm : x_sm r ≤ 8) (k4 : x_okl T.1.length lv = true) (k5 : x_oks T.1.length r = true) (hR1 : d + 1 ≤ R.frames) (hR2 : 100 * d + 100 ≤ R.locals) (g : x_mo q1.2 q.2 ∧ x_G p l e R s m args below meth c D cl C A nL n0 z0 sad ad0 Q (pc + 3) lv (q1.1.toList ++ r) q1.2) : x_mo T q.2 ∧ x_G p l e R s m args below meth c D cl C A nL n0 z0 sad ad0 Q pc lv (As.reverse ++ .ref b :: r) T := by
  obtain ⟨hx, hb, hml, hown, hts, hKa, hA, hF, hG, hfr, hlo, hce, hsl, har, hXT⟩ := id hc
  obtain ⟨hmk, hlink, hinst, hsel, Tn, N, hcl⟩ := hl2
  subst hci
  obtain ⟨m1, m2, m3, m4⟩ := hmk
  refine x_back hc hC k4 k5 (fun ad H locs cells slots ls e1 hP hD hS hl hf => ?_) g
  have hlsz : ls.size = nL := by obtain ⟨lst, hl1, hl2, hl3⟩ := hl; exact hl1.1
  have hM := hC.2 ad sad adV D C H.size
  have hst : (As.reverse ++ .ref b :: r).map (x_val ad sad) = (As.map (x_val ad sad)).reverse ++ .ref (ad b) :: r.map (x_val ad sad) := by simp [x_val]
  rw [hst]
  rcases hlink with hlink | ⟨host, hlink⟩
  · exact va_runV (nL := nL) (As := As.map (x_val ad sad)) (rest := r.map (x_val ad sad)) (n := (E.2.1 μ).1) ⟨hx, hb, hml, hown, hts⟩ hM ⟨(callB_of (bytes := (M μ).2.1) (maxL := (M μ).2.2.1) (ret := (M μ).2.2.2) (ws' := Ts0) _ hts hGi rfl rfl rfl (hts _ m2) (hts _ hlink) m3 ⟨hR1, by show 8 + (_ + 11) + 100 * d ≤ _; omega⟩), hts _ hinst, hts _ hsel⟩ ⟨x_blind, va_recv hKa hP hcl (x_W_get (ad := ad) (C := C) hsh), fun U hU hW => ⟨by simp [x_val], x_pre_call hKa hxs hA hP hD hS hU hW⟩⟩ rfl (by rw [List.length_map]; exact hn) hlsz rfl (lv_room (by rw [x_sm_val (sad := sad) ad]; exact hsm)) hdg hf
  · exact va_runVN (nL := nL) (As := As.map (x_val ad sad)) (rest := r.map (x_val ad sad)) (n := (E.2.1 μ).1) ⟨hx, hb, hml, hown, hts⟩ hM ⟨(va_cnB (bytes := (M μ).2.1) (maxL := (M μ).2.2.1) (ret := (M μ).2.2.2) (ws' := Ts0) _ hts hGi rfl rfl rfl (hxs.2.2.1 _ hlink) (hts _ m2) m3 ⟨hR1, by show 8 + (_ + 11) + 100 * d ≤ _; omega⟩), hts _ hinst, hts _ hsel⟩ ⟨x_blind, va_recv hKa hP hcl (x_W_get (ad := ad) (C := C) hsh), fun U hU hW => ⟨by simp [x_val], x_pre_call hKa hxs hA hP hD hS hU hW⟩⟩ rfl (by rw [List.length_map]; exact hn) hlsz rfl (lv_room (by rw [x_sm_val (sad := sad) ad]; exact hsm)) hdg hf
set_option maxHeartbeats 1000000 in
theorem x_o_callI {ix μ b : Nat} {As r : List Value} {q1 : Option Value × x_T}  (hc : x_cx p R s m args meth c cc D cl C A nL n0 z0 sad own Ts F Gp XT q) (hl2 : x_l2 Ts E M X own cl ix (.invokespecial μ)) (hxs : x_xs X sad adV A s) (hGi : GoodIn Ts (x_ws Ts0 M μ)) (hdg : decode cc pc = .ok (.invokespecial ix, 3)) (hC : x_C l cl X Ts0 M d μ (.ref b :: As) T q1) (hn : As.length = (E.2.1 μ).1)  (hsm : x_sm r ≤ 8) (k4 : x_okl T.1.length lv = true) (k5 : x_oks T.1.length r = true) (hR1 : d + 1 ≤ R.frames) (hR2 : 100 * d + 100 ≤ R.locals) (g : x_mo q1.2 q.2 ∧ x_G p l e R s m args below meth c D cl C A nL n0 z0 sad ad0 Q (pc + 3) lv (q1.1.toList ++ r) q1.2) : x_mo T q.2 ∧ x_G p l e R s m args below meth c D cl C A nL n0 z0 sad ad0 Q pc lv (As.reverse ++ .ref b :: r) T := by
  obtain ⟨hx, hb, hml, hown, hts, hKa, hA, hF, hG, hfr, hlo, hce, hsl, har, hXT⟩ := id hc
  obtain ⟨hmk, hlink, hinst, hnm, hret⟩ := hl2
  obtain ⟨m1, m2, m3, m4⟩ := hmk
  refine x_back hc hC k4 k5 (fun ad H locs cells slots ls e1 hP hD hS hl hf => ?_) g
  have hlsz : ls.size = nL := by obtain ⟨lst, hl1, hl2, hl3⟩ := hl; exact hl1.1
  have hM := hC.2 ad sad adV D C H.size
  have hst : (As.reverse ++ .ref b :: r).map (x_val ad sad) = (As.map (x_val ad sad)).reverse ++ .ref (ad b) :: r.map (x_val ad sad) := by simp [x_val]
  rw [hst]
  rcases hlink with hlink | ⟨host, hlink⟩
  · exact va_runI (nL := nL) (As := As.map (x_val ad sad)) (rest := r.map (x_val ad sad)) (n := (E.2.1 μ).1) ⟨hx, hb, hml, hown, hts⟩ hM ⟨(callB_of (bytes := (M μ).2.1) (maxL := (M μ).2.2.1) (ret := none) (ws' := Ts0) _ hts hGi (by unfold x_ws; rw [hret]) rfl rfl (hts _ m2) (hts _ hlink) m3 ⟨hR1, by show 8 + (_ + 11) + 100 * d ≤ _; omega⟩), hnm, hts _ hinst⟩ ⟨x_blind, fun U hU hW => ⟨by simp [x_val], x_pre_call hKa hxs hA hP hD hS hU hW⟩⟩ rfl (by rw [List.length_map]; exact hn) hlsz rfl (lv_room (by rw [x_sm_val (sad := sad) ad]; exact hsm)) hdg hf
  · exact va_runIN (nL := nL) (As := As.map (x_val ad sad)) (rest := r.map (x_val ad sad)) (n := (E.2.1 μ).1) ⟨hx, hb, hml, hown, hts⟩ hM ⟨(va_cnB (bytes := (M μ).2.1) (maxL := (M μ).2.2.1) (ret := none) (ws' := Ts0) _ hts hGi (by unfold x_ws; rw [hret]) rfl rfl (hxs.2.2.1 _ hlink) (hts _ m2) m3 ⟨hR1, by show 8 + (_ + 11) + 100 * d ≤ _; omega⟩), hnm, hts _ hinst⟩ ⟨x_blind, fun U hU hW => ⟨by simp [x_val], x_pre_call hKa hxs hA hP hD hS hU hW⟩⟩ rfl (by rw [List.length_map]; exact hn) hlsz rfl (lv_room (by rw [x_sm_val (sad := sad) ad]; exact hsm)) hdg hf
set_option maxHeartbeats 1000000 in
theorem x_o_callS {ix μ b : Nat} {As r : List Value} {q1 : Option Value × x_T}  (hc : x_cx p R s m args meth c cc D cl C A nL n0 z0 sad own Ts F Gp XT q) (hl2 : x_l2 Ts E M X own cl ix (.invokestatic μ)) (hxs : x_xs X sad adV A s) (hGi : GoodIn Ts (x_ws Ts0 M μ)) (hdg : decode cc pc = .ok (.invokestatic ix, 3)) (hC : x_C l cl X Ts0 M d μ As T q1) (hn : As.length = (E.2.1 μ).1)  (hsm : x_sm r ≤ 8) (k4 : x_okl T.1.length lv = true) (k5 : x_oks T.1.length r = true) (hR1 : d + 1 ≤ R.frames) (hR2 : 100 * d + 100 ≤ R.locals) (g : x_mo q1.2 q.2 ∧ x_G p l e R s m args below meth c D cl C A nL n0 z0 sad ad0 Q (pc + 3) lv (q1.1.toList ++ r) q1.2) : x_mo T q.2 ∧ x_G p l e R s m args below meth c D cl C A nL n0 z0 sad ad0 Q pc lv (As.reverse ++ r) T := by
  obtain ⟨hx, hb, hml, hown, hts, hKa, hA, hF, hG, hfr, hlo, hce, hsl, har, hXT⟩ := id hc
  obtain ⟨hmk, hlink, hstat⟩ := hl2
  obtain ⟨m1, m2, m3, m4⟩ := hmk
  refine x_back hc hC k4 k5 (fun ad H locs cells slots ls e1 hP hD hS hl hf => ?_) g
  have hlsz : ls.size = nL := by obtain ⟨lst, hl1, hl2, hl3⟩ := hl; exact hl1.1
  have hM := hC.2 ad sad adV D C H.size
  have hst : (As.reverse ++ r).map (x_val ad sad) = (As.map (x_val ad sad)).reverse ++ r.map (x_val ad sad) := by simp [x_val]
  rw [hst]
  rcases hlink with hlink | ⟨host, hlink⟩
  · exact va_runS (nL := nL) (As := As.map (x_val ad sad)) (rest := r.map (x_val ad sad)) (n := (E.2.1 μ).1) ⟨hx, hb, hml, hown, hts⟩ hM ⟨(callB_of (bytes := (M μ).2.1) (maxL := (M μ).2.2.1) (ret := (M μ).2.2.2) (ws' := Ts0) _ hts hGi rfl rfl rfl (hts _ m2) (hts _ hlink) m3 ⟨hR1, by show 8 + (_ + 11) + 100 * d ≤ _; omega⟩), hts _ hstat⟩ ⟨x_blind, fun U hU hW => ⟨by simp [x_val], x_pre_call hKa hxs hA hP hD hS hU hW⟩⟩ rfl (by rw [List.length_map]; exact hn) hlsz rfl (lv_room (by rw [x_sm_val (sad := sad) ad]; exact hsm)) hdg hf
  · exact va_runSN (nL := nL) (As := As.map (x_val ad sad)) (rest := r.map (x_val ad sad)) (n := (E.2.1 μ).1) ⟨hx, hb, hml, hown, hts⟩ hM ⟨(va_cnB (bytes := (M μ).2.1) (maxL := (M μ).2.2.1) (ret := (M μ).2.2.2) (ws' := Ts0) _ hts hGi rfl rfl rfl (hxs.2.2.1 _ hlink) (hts _ m2) m3 ⟨hR1, by show 8 + (_ + 11) + 100 * d ≤ _; omega⟩), hts _ hstat, trivial⟩ ⟨x_blind, fun U hU hW => ⟨by simp [x_val], x_pre_call hKa hxs hA hP hD hS hU hW⟩⟩ rfl (by rw [List.length_map]; exact hn) hlsz rfl (lv_room (by rw [x_sm_val (sad := sad) ad]; exact hsm)) hdg hf
set_option maxHeartbeats 1000000 in
theorem x_o_callT {ix μ b : Nat} {As r : List Value} {q1 : Option Value × x_T}  (hc : x_cx p R s m args meth c cc D cl C A nL n0 z0 sad own Ts F Gp XT q) (hl2 : x_l2 Ts E M X own cl ix (.checkcast μ)) (hxs : x_xs X sad adV A s) (hGi : GoodIn Ts (x_ws Ts0 M μ)) (hdg : decode cc pc = .ok (.invokevirtual ix, 3)) (hC : x_C l cl X Ts0 M d μ (.retAddr b :: As) T q1) (hn : As.length = (E.2.1 μ).1) (hb2 : b < 2) (hsm : x_sm r ≤ 8) (k4 : x_okl T.1.length lv = true) (k5 : x_oks T.1.length r = true) (hR1 : d + 1 ≤ R.frames) (hR2 : 100 * d + 100 ≤ R.locals) (g : x_mo q1.2 q.2 ∧ x_G p l e R s m args below meth c D cl C A nL n0 z0 sad ad0 Q (pc + 3) lv (q1.1.toList ++ r) q1.2) : x_mo T q.2 ∧ x_G p l e R s m args below meth c D cl C A nL n0 z0 sad ad0 Q pc lv (As.reverse ++ .retAddr b :: r) T := by
  obtain ⟨hx, hb, hml, hown, hts, hKa, hA, hF, hG, hfr, hlo, hce, hsl, har, hXT⟩ := id hc
  obtain ⟨hmk, hlink0, hinst, hsel, hcls, hX2⟩ := hl2
  have hlink : Cond.methodLink own ix (M μ).1 ∈ Ts ∨ ∃ host, (own, ix, (M μ).1, host) ∈ X.2.2.2.2.1 := Or.inl hlink0
  obtain ⟨m1, m2, m3, m4⟩ := hmk
  refine x_back hc hC k4 k5 (fun ad H locs cells slots ls e1 hP hD hS hl hf => ?_) g
  have hlsz : ls.size = nL := by obtain ⟨lst, hl1, hl2, hl3⟩ := hl; exact hl1.1
  have hM := hC.2 ad sad adV D C H.size
  have hst : (As.reverse ++ .retAddr b :: r).map (x_val ad sad) = (As.map (x_val ad sad)).reverse ++ .ref (sad b) :: r.map (x_val ad sad) := by simp [x_val]
  rw [hst]
  have hrec : ∃ cellB : Cell, H[sad b]? = some cellB ∧ cellB.vm.isStatics = false ∧ s.vm.findClass (M μ).1.cls = some cellB.cls := by
    obtain ⟨cell, e1, e2, e3, e4⟩ := ((vk_S.kept hxs.2.1 (fun a ha hn => hS.2.1 a ha hn)).1 b (by omega)).1
    exact ⟨cell, e1, e2, by rw [hcls]; exact e3⟩
  rcases hlink with hlink | ⟨host, hlink⟩
  · exact va_runV (nL := nL) (As := As.map (x_val ad sad)) (rest := r.map (x_val ad sad)) (n := (E.2.1 μ).1) ⟨hx, hb, hml, hown, hts⟩ hM ⟨(callB_of (bytes := (M μ).2.1) (maxL := (M μ).2.2.1) (ret := (M μ).2.2.2) (ws' := Ts0) _ hts hGi rfl rfl rfl (hts _ m2) (hts _ hlink) m3 ⟨hR1, by show 8 + (_ + 11) + 100 * d ≤ _; omega⟩), hts _ hinst, hts _ hsel⟩ ⟨x_blind, hrec, fun U hU hW => ⟨by simp [x_val], x_pre_call hKa hxs hA hP hD hS hU hW⟩⟩ rfl (by rw [List.length_map]; exact hn) hlsz rfl (lv_room (by rw [x_sm_val (sad := sad) ad]; exact hsm)) hdg hf
  · exact va_runVN (nL := nL) (As := As.map (x_val ad sad)) (rest := r.map (x_val ad sad)) (n := (E.2.1 μ).1) ⟨hx, hb, hml, hown, hts⟩ hM ⟨(va_cnB (bytes := (M μ).2.1) (maxL := (M μ).2.2.1) (ret := (M μ).2.2.2) (ws' := Ts0) _ hts hGi rfl rfl rfl (hxs.2.2.1 _ hlink) (hts _ m2) m3 ⟨hR1, by show 8 + (_ + 11) + 100 * d ≤ _; omega⟩), hts _ hinst, hts _ hsel⟩ ⟨x_blind, hrec, fun U hU hW => ⟨by simp [x_val], x_pre_call hKa hxs hA hP hD hS hU hW⟩⟩ rfl (by rw [List.length_map]; exact hn) hlsz rfl (lv_room (by rw [x_sm_val (sad := sad) ad]; exact hsm)) hdg hf
end X9
