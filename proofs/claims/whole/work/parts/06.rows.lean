section X6
variable {p : Program} {l : Launch} {e : Env} {R : Room} {s : State} {m : MethodId} {args : Array Value} {below : List Frame} {meth : Method} {c : Code} {Q : State → Prop} {cc : ByteArray} {D : va_G} {cl : List vw_C} {C : FieldType → ClassId} {A : Nat → Prop} {nL n0 z0 : Nat} {sad ad0 : Nat → Nat} {own : String} {Ts : List Cond} {F Gp : Nat → Option Instr} {pc len : Nat} {lv lv' : x_L} {st st' : List Value} {T T' : x_T} {q : Option Value × x_T} {K : x_L → List Value → x_T → x_Z} {raw res : Instr} {XT : x_Xt}
theorem x_W_arr {ad : Nat → Nat} {a n : Nat} {ty : FieldType} (h : T.1[a]? = some (.inl (ty, n))) (hty : ty ≠ .long) : (x_W ad C T)[a]? = some (ad a, .inl (C ty, n, .inl (T.2.1 a))) := by
  rw [x_W_get h]
  simp [x_ent, x_vp, hty]
theorem x_W_arrL {ad : Nat → Nat} {a n : Nat} (h : T.1[a]? = some (.inl (.long, n))) : (x_W ad C T)[a]? = some (ad a, .inl (C .long, n, .inr (.inl (T.2.2 a)))) := by
  rw [x_W_get h]
  simp [x_ent, x_vp]
theorem x_mo_of {U V : x_T} (h : x_mo U V) (h1 : T.1.length = U.1.length) (h2 : x_z T.1 = x_z U.1) : x_mo T V := ⟨by rw [h1]; exact h.1, by rw [h2]; exact h.2⟩
theorem x_sm_val (ad : Nat → Nat) (st : List Value) : ((st.map (x_val ad sad)).map fun v => v.category).sum = x_sm st := by
  unfold x_sm
  congr 1
  rw [List.map_map]
  apply List.map_congr_left
  intro v hv
  cases v <;> rfl
set_option maxHeartbeats 1000000 in
theorem x_o_alen  (hc : x_cx p R s m args meth c cc D cl C A nL n0 z0 sad own Ts F Gp XT q) (hdg : decode cc pc = .ok (.arraylength, 1)) (hK : ∀ lv' st' T', K lv' st' T' = some q → x_mo T' q.2 ∧ x_G p l e R s m args below meth c D cl C A nL n0 z0 sad ad0 Q (pc + 1) lv' st' T') (h : x_s1 XT (.arraylength) lv st T K = some q) : x_mo T q.2 ∧ x_G p l e R s m args below meth c D cl C A nL n0 z0 sad ad0 Q pc lv st T := by
  obtain ⟨hx, hb, hml, hown, hts, hKa, hA, hF, hG, hfr, hlo, hce, hsl, har, hXT⟩ := id hc
  simp only [x_s1] at h
  split at h
  · split at h
    · rename_i qq ha
      obtain ⟨ty, n⟩ := qq
      have hx0 := x_g_some h
      clear h
      obtain ⟨hty, h⟩ := hx0
      have hty := of_decide_eq_true hty
      · refine x_go (hK _ _ _ h) (fun ad H locs cells slots ls hP hD hS hl g => ?_)
        have hw := x_W_get (ad := ad) (C := C) ha
        simp only at hty
        rcases hty with rfl | rfl | rfl
        · exact va_alen hx hb hKa hP _ 0 hw rfl rfl hdg g
        · exact va_alen hx hb hKa hP _ 1 hw rfl rfl hdg g
        · exact va_alen hx hb hKa hP _ 2 hw rfl rfl hdg g
    · cases h
  · split at h
    · rename_i qq hq
      obtain ⟨n, f⟩ := qq
      obtain ⟨x1, x2, x3⟩ := hXT _ _ _ hq
      exact x_go (hK _ _ _ h) (fun ad H locs cells slots ls hP hD hS hl g => va_slen hx hb x1 x2 x3 hS hdg g)
    · cases h
  · cases h
set_option maxHeartbeats 1000000 in
theorem x_o_iaload  (hc : x_cx p R s m args meth c cc D cl C A nL n0 z0 sad own Ts F Gp XT q) (hdg : decode cc pc = .ok (.iaload, 1)) (hK : ∀ lv' st' T', K lv' st' T' = some q → x_mo T' q.2 ∧ x_G p l e R s m args below meth c D cl C A nL n0 z0 sad ad0 Q (pc + 1) lv' st' T') (h : x_s1 XT (.iaload) lv st T K = some q) : x_mo T q.2 ∧ x_G p l e R s m args below meth c D cl C A nL n0 z0 sad ad0 Q pc lv st T := by
  obtain ⟨hx, hb, hml, hown, hts, hKa, hA, hF, hG, hfr, hlo, hce, hsl, har, hXT⟩ := id hc
  simp only [x_s1] at h
  split at h
  · split at h
    · rename_i ha
      split at h
      · rename_i hin
        exact x_go (hK _ _ _ h) (fun ad H locs cells slots ls hP hD hS hl g => va_iald hx hb hKa hP _ 0 (x_W_arr ha (by decide)) rfl (x_in_vp hin) hdg g)
      · cases h
    · cases h
  · split at h
    · rename_i qq hq
      obtain ⟨n, f⟩ := qq
      obtain ⟨x1, x2, x3⟩ := hXT _ _ _ hq
      split at h
      · rename_i hin
        exact x_go (hK _ _ _ h) (fun ad H locs cells slots ls hP hD hS hl g => va_sld hx hb x1 x2 x3 hS (x_in_vp hin) hdg g)
      · cases h
    · cases h
  · cases h
set_option maxHeartbeats 1000000 in
theorem x_o_baload  (hc : x_cx p R s m args meth c cc D cl C A nL n0 z0 sad own Ts F Gp XT q) (hdg : decode cc pc = .ok (.baload, 1)) (hK : ∀ lv' st' T', K lv' st' T' = some q → x_mo T' q.2 ∧ x_G p l e R s m args below meth c D cl C A nL n0 z0 sad ad0 Q (pc + 1) lv' st' T') (h : x_s1 XT (.baload) lv st T K = some q) : x_mo T q.2 ∧ x_G p l e R s m args below meth c D cl C A nL n0 z0 sad ad0 Q pc lv st T := by
  obtain ⟨hx, hb, hml, hown, hts, hKa, hA, hF, hG, hfr, hlo, hce, hsl, har, hXT⟩ := id hc
  simp only [x_s1] at h
  split at h
  · split at h
    · rename_i ha
      split at h
      · rename_i hin
        exact x_go (hK _ _ _ h) (fun ad H locs cells slots ls hP hD hS hl g => va_zald hx hb hKa hP _ 1 (x_W_arr ha (by decide)) rfl (x_in_vp hin) hdg g)
      · cases h
    · cases h
  · cases h
set_option maxHeartbeats 1000000 in
theorem x_o_laload  (hc : x_cx p R s m args meth c cc D cl C A nL n0 z0 sad own Ts F Gp XT q) (hdg : decode cc pc = .ok (.laload, 1)) (hK : ∀ lv' st' T', K lv' st' T' = some q → x_mo T' q.2 ∧ x_G p l e R s m args below meth c D cl C A nL n0 z0 sad ad0 Q (pc + 1) lv' st' T') (h : x_s1 XT (.laload) lv st T K = some q) : x_mo T q.2 ∧ x_G p l e R s m args below meth c D cl C A nL n0 z0 sad ad0 Q pc lv st T := by
  obtain ⟨hx, hb, hml, hown, hts, hKa, hA, hF, hG, hfr, hlo, hce, hsl, har, hXT⟩ := id hc
  simp only [x_s1] at h
  split at h
  · split at h
    · rename_i ha
      split at h
      · rename_i hin
        exact x_go (hK _ _ _ h) (fun ad H locs cells slots ls hP hD hS hl g => va_lald hx hb hKa hP _ 2 (x_W_arrL ha) rfl (x_in_vp hin) hdg g)
      · cases h
    · cases h
  · cases h
set_option maxHeartbeats 1000000 in
theorem x_o_iastore  (hc : x_cx p R s m args meth c cc D cl C A nL n0 z0 sad own Ts F Gp XT q) (hdg : decode cc pc = .ok (.iastore, 1)) (hK : ∀ lv' st' T', K lv' st' T' = some q → x_mo T' q.2 ∧ x_G p l e R s m args below meth c D cl C A nL n0 z0 sad ad0 Q (pc + 1) lv' st' T') (h : x_s1 XT (.iastore) lv st T K = some q) : x_mo T q.2 ∧ x_G p l e R s m args below meth c D cl C A nL n0 z0 sad ad0 Q pc lv st T := by
  obtain ⟨hx, hb, hml, hown, hts, hKa, hA, hF, hG, hfr, hlo, hce, hsl, har, hXT⟩ := id hc
  simp only [x_s1] at h
  split at h
  · split at h
    · rename_i ha
      split at h
      · rename_i hin
        have g := hK _ _ _ h
        refine ⟨x_mo_of g.1 rfl rfl, fun ad H locs cells slots ls e1 hP hD hS hl c1 c2 => ?_⟩
        refine va_iast hx hb hKa hP hD hS _ 0 (x_W_arr ha (by decide)) rfl (x_in_vp hin) hdg (fun H1 locs1 hP1 hD1 hS1 => ?_)
        rw [x_W_ia ha (by decide)] at hP1 hD1
        exact g.2 ad H1 locs1 cells slots ls e1 hP1 hD1 hS1 hl c1 c2
      · cases h
    · cases h
  · cases h
set_option maxHeartbeats 1000000 in
theorem x_o_bastore  (hc : x_cx p R s m args meth c cc D cl C A nL n0 z0 sad own Ts F Gp XT q) (hdg : decode cc pc = .ok (.bastore, 1)) (hK : ∀ lv' st' T', K lv' st' T' = some q → x_mo T' q.2 ∧ x_G p l e R s m args below meth c D cl C A nL n0 z0 sad ad0 Q (pc + 1) lv' st' T') (h : x_s1 XT (.bastore) lv st T K = some q) : x_mo T q.2 ∧ x_G p l e R s m args below meth c D cl C A nL n0 z0 sad ad0 Q pc lv st T := by
  obtain ⟨hx, hb, hml, hown, hts, hKa, hA, hF, hG, hfr, hlo, hce, hsl, har, hXT⟩ := id hc
  simp only [x_s1] at h
  split at h
  · split at h
    · rename_i ha
      split at h
      · rename_i hin
        have g := hK _ _ _ h
        refine ⟨x_mo_of g.1 rfl rfl, fun ad H locs cells slots ls e1 hP hD hS hl c1 c2 => ?_⟩
        refine va_zast hx hb hKa hP hD hS _ 1 (x_W_arr ha (by decide)) rfl (x_in_vp hin) hdg (fun H1 locs1 hP1 hD1 hS1 => ?_)
        rw [x_W_ia ha (by decide)] at hP1 hD1
        exact g.2 ad H1 locs1 cells slots ls e1 hP1 hD1 hS1 hl c1 c2
      · cases h
    · cases h
  · cases h
set_option maxHeartbeats 1000000 in
theorem x_o_lastore  (hc : x_cx p R s m args meth c cc D cl C A nL n0 z0 sad own Ts F Gp XT q) (hdg : decode cc pc = .ok (.lastore, 1)) (hK : ∀ lv' st' T', K lv' st' T' = some q → x_mo T' q.2 ∧ x_G p l e R s m args below meth c D cl C A nL n0 z0 sad ad0 Q (pc + 1) lv' st' T') (h : x_s1 XT (.lastore) lv st T K = some q) : x_mo T q.2 ∧ x_G p l e R s m args below meth c D cl C A nL n0 z0 sad ad0 Q pc lv st T := by
  obtain ⟨hx, hb, hml, hown, hts, hKa, hA, hF, hG, hfr, hlo, hce, hsl, har, hXT⟩ := id hc
  simp only [x_s1] at h
  split at h
  · split at h
    · rename_i ha
      split at h
      · rename_i hin
        have g := hK _ _ _ h
        refine ⟨x_mo_of g.1 rfl rfl, fun ad H locs cells slots ls e1 hP hD hS hl c1 c2 => ?_⟩
        refine va_last hx hb hKa hP hD hS _ 2 (x_W_arrL ha) rfl (x_in_vp hin) hdg (fun H1 locs1 hP1 hD1 hS1 => ?_)
        rw [x_W_la ha] at hP1 hD1
        exact g.2 ad H1 locs1 cells slots ls e1 hP1 hD1 hS1 hl c1 c2
      · cases h
    · cases h
  · cases h
set_option maxHeartbeats 1000000 in
theorem x_o_getf {ix ci k : Nat} (hv : F ix = some (.invokeinterface ci k)) (hc : x_cx p R s m args meth c cc D cl C A nL n0 z0 sad own Ts F Gp XT q) (hdg : decode cc pc = .ok (.getfield ix, 3)) (hK : ∀ lv' st' T', K lv' st' T' = some q → x_mo T' q.2 ∧ x_G p l e R s m args below meth c D cl C A nL n0 z0 sad ad0 Q (pc + 3) lv' st' T') (h : x_s1 XT (.invokeinterface ci k) lv st T K = some q) : x_mo T q.2 ∧ x_G p l e R s m args below meth c D cl C A nL n0 z0 sad ad0 Q pc lv st T := by
  obtain ⟨hx, hb, hml, hown, hts, hKa, hA, hF, hG, hfr, hlo, hce, hsl, har, hXT⟩ := id hc
  simp only [x_s1] at h
  obtain ⟨Cn, Tn, N, hcl, hk, hin, hlink⟩ := hF _ _ hv
  split at h
  · rename_i a st2
    split at h
    · rename_i o ha
      obtain ⟨c1, fs⟩ := o
      have hx0 := x_g_some h
      clear h
      obtain ⟨hci, h⟩ := hx0
      · have hci := Nat.eq_of_beq_eq_true hci
        simp only at hci
        subst hci
        split at h
        · rename_i hf
          refine x_go (hK _ _ _ h) (fun ad H locs cells slots ls hP hD hS hl g => ?_)
          have hw := x_W_get (ad := ad) (C := C) ha
          have hfv : (fs.mapIdx (fun k r => x_fv ad (T.2.1 a) k r))[k]? = some (.int (T.2.1 a k)) := by rw [List.getElem?_mapIdx, hf]; rfl
          rcases hlink with hlink | ⟨host, hlink⟩
          · exact va_get hx hb hts hin hown hKa hP _ hw hcl k hk (hts _ hlink) (fun _ h => h) hfv hdg g
          · exact va_getN hx hb hts hin hown hKa hP _ hw hcl k hk (va_Nw.use rfl hlink) (fun _ h => h) hfv hdg g
        · rename_i d hf
          refine x_go (hK _ _ _ h) (fun ad H locs cells slots ls hP hD hS hl g => ?_)
          have hw := x_W_get (ad := ad) (C := C) ha
          have hfv : (fs.mapIdx (fun k r => x_fv ad (T.2.1 a) k r))[k]? = some (.ref (ad d)) := by rw [List.getElem?_mapIdx, hf]; rfl
          rcases hlink with hlink | ⟨host, hlink⟩
          · exact va_get hx hb hts hin hown hKa hP _ hw hcl k hk (hts _ hlink) (fun _ h => h) hfv hdg g
          · exact va_getN hx hb hts hin hown hKa hP _ hw hcl k hk (va_Nw.use rfl hlink) (fun _ h => h) hfv hdg g
        · cases h
    · cases h
  · cases h
set_option maxHeartbeats 1000000 in
theorem x_o_pop {ix : Nat} (hv : F ix = some .pop) (hc : x_cx p R s m args meth c cc D cl C A nL n0 z0 sad own Ts F Gp XT q) (hdg : decode cc pc = .ok (.invokespecial ix, 3)) (hK : ∀ lv' st' T', K lv' st' T' = some q → x_mo T' q.2 ∧ x_G p l e R s m args below meth c D cl C A nL n0 z0 sad ad0 Q (pc + 3) lv' st' T') (h : x_s1 XT (.pop) lv st T K = some q) : x_mo T q.2 ∧ x_G p l e R s m args below meth c D cl C A nL n0 z0 sad ad0 Q pc lv st T := by
  obtain ⟨hx, hb, hml, hown, hts, hKa, hA, hF, hG, hfr, hlo, hce, hsl, har, hXT⟩ := id hc
  simp only [x_s1] at h
  obtain ⟨h1, h2, h3⟩ := hF _ _ hv
  split at h
  · have hx0 := x_g_some h
    clear h
    obtain ⟨hsm, h⟩ := hx0
    have hsm := Nat.le_of_ble_eq_true hsm
    · refine x_go (hK _ _ _ h) (fun ad H locs cells slots ls hP hD hS hl g => ?_)
      obtain ⟨lst, hl1, hl2, hl3⟩ := hl
      refine W.objInit hx hb hown (hts _ h1) (hts _ h2) (hts _ h3) rfl (by rw [hml]; exact hl1.1) rfl hdg hfr ?_ g
      have := lv_room (m := m) (pc := pc) (ls := ls) (rest := []) (st := List.map (x_val ad sad) _) (by rw [x_sm_val (sad := sad) ad]; exact hsm)
      simp only [JFrame.monitorRoom] at this ⊢
      omega
  · cases h
set_option maxHeartbeats 1000000 in
theorem x_o_mmax {ix : Nat} (hv : F ix = some (.invokedynamic 0)) (hc : x_cx p R s m args meth c cc D cl C A nL n0 z0 sad own Ts F Gp XT q) (hdg : decode cc pc = .ok (.invokestatic ix, 3)) (hK : ∀ lv' st' T', K lv' st' T' = some q → x_mo T' q.2 ∧ x_G p l e R s m args below meth c D cl C A nL n0 z0 sad ad0 Q (pc + 3) lv' st' T') (h : x_s1 XT (.invokedynamic 0) lv st T K = some q) : x_mo T q.2 ∧ x_G p l e R s m args below meth c D cl C A nL n0 z0 sad ad0 Q pc lv st T := by
  obtain ⟨hx, hb, hml, hown, hts, hKa, hA, hF, hG, hfr, hlo, hce, hsl, har, hXT⟩ := id hc
  simp only [x_s1] at h
  obtain ⟨h1, h2, h3, h4⟩ := hF _ _ hv
  split at h
  · have hx0 := x_g_some h
    clear h
    obtain ⟨hsm, h⟩ := hx0
    have hsm := Nat.le_of_ble_eq_true hsm
    · have g := hK _ _ _ h
      refine ⟨g.1, fun ad H locs cells slots ls e1 hP hD hS hl c1 c2 => ?_⟩
      have hmo := g.1
      unfold x_mo at hmo
      refine va_mmax hx hb (by rw [hml]; obtain ⟨lst, hl1, hl2, hl3⟩ := hl; exact hl1.1.symm) hown (hts _ h1) (hts _ h2) (hts _ h3) (hts _ h4) hfr ?_ (by omega) (by omega) hdg (g.2 ad H locs cells slots ls e1 hP hD hS hl c1 c2)
      rw [x_sm_val (sad := sad) ad]
      omega
  · cases h
set_option maxHeartbeats 1000000 in
theorem x_o_mmin {ix : Nat} (hv : F ix = some (.invokedynamic 1)) (hc : x_cx p R s m args meth c cc D cl C A nL n0 z0 sad own Ts F Gp XT q) (hdg : decode cc pc = .ok (.invokestatic ix, 3)) (hK : ∀ lv' st' T', K lv' st' T' = some q → x_mo T' q.2 ∧ x_G p l e R s m args below meth c D cl C A nL n0 z0 sad ad0 Q (pc + 3) lv' st' T') (h : x_s1 XT (.invokedynamic 1) lv st T K = some q) : x_mo T q.2 ∧ x_G p l e R s m args below meth c D cl C A nL n0 z0 sad ad0 Q pc lv st T := by
  obtain ⟨hx, hb, hml, hown, hts, hKa, hA, hF, hG, hfr, hlo, hce, hsl, har, hXT⟩ := id hc
  simp only [x_s1] at h
  obtain ⟨h1, h2, h3, h4⟩ := hF _ _ hv
  split at h
  · have hx0 := x_g_some h
    clear h
    obtain ⟨hsm, h⟩ := hx0
    have hsm := Nat.le_of_ble_eq_true hsm
    · have g := hK _ _ _ h
      refine ⟨g.1, fun ad H locs cells slots ls e1 hP hD hS hl c1 c2 => ?_⟩
      have hmo := g.1
      unfold x_mo at hmo
      refine va_mmin hx hb (by rw [hml]; obtain ⟨lst, hl1, hl2, hl3⟩ := hl; exact hl1.1.symm) hown (hts _ h1) (hts _ h2) (hts _ h3) (hts _ h4) hfr ?_ (by omega) (by omega) hdg (g.2 ad H locs cells slots ls e1 hP hD hS hl c1 c2)
      rw [x_sm_val (sad := sad) ad]
      omega
  · cases h
theorem x_nfw : nativeFrameWords "java/lang/System" "arraycopy" 5 ≤ 30 := by decide +kernel
set_option maxHeartbeats 1000000 in
theorem x_o_copy {ix : Nat} (hv : F ix = some (.invokedynamic 2)) (hc : x_cx p R s m args meth c cc D cl C A nL n0 z0 sad own Ts F Gp XT q) (hdg : decode cc pc = .ok (.invokestatic ix, 3)) (hK : ∀ lv' st' T', K lv' st' T' = some q → x_mo T' q.2 ∧ x_G p l e R s m args below meth c D cl C A nL n0 z0 sad ad0 Q (pc + 3) lv' st' T') (h : x_s1 XT (.invokedynamic 2) lv st T K = some q) : x_mo T q.2 ∧ x_G p l e R s m args below meth c D cl C A nL n0 z0 sad ad0 Q pc lv st T := by
  obtain ⟨hx, hb, hml, hown, hts, hKa, hA, hF, hG, hfr, hlo, hce, hsl, har, hXT⟩ := id hc
  simp only [x_s1] at h
  obtain ⟨h1, h2, h3, h4⟩ := hF _ _ hv
  split at h
  · split at h
    · rename_i ha hb'
      split at h
      · rename_i hcond
        obtain ⟨hsm, k1, k2, k3, k4, k5⟩ := hcond
        have g := hK _ _ _ h
        refine ⟨x_mo_of g.1 rfl rfl, fun ad H locs cells slots ls e1 hP hD hS hl c1 c2 => ?_⟩
        have hnf := x_nfw
        refine va_copyi hx hb (by rw [hml]; obtain ⟨lst, hl1, hl2, hl3⟩ := hl; exact hl1.1.symm) hown (hts _ h1) (hts _ h2) (hts _ h3) (hts _ h4) hKa hP hD hS _ _ 0 0 (x_W_arr ha (by decide)) (x_W_arr hb' (by decide)) rfl rfl rfl k1 k2 k3 k4 k5 (fun i _ => rfl) hfr ?_ hdg (fun H1 locs1 hP1 hD1 hS1 => ?_)
        · rw [x_sm_val (sad := sad) ad]
          omega
        · rw [x_W_fa hb' (by decide)] at hP1 hD1
          exact g.2 ad H1 locs1 cells slots ls e1 hP1 hD1 hS1 hl c1 c2
      · cases h
    · cases h
  · cases h
theorem x_putany {ix ci k a : Nat} {fs : List (Option Nat)} {v : Value} {st2 : List Value} (hc : x_cx p R s m args meth c cc D cl C A nL n0 z0 sad own Ts F Gp XT q) (hpk : x_pk Ts own cl s meth ix (.multianewarray ci k)) (hdg : decode cc pc = .ok (.putfield ix, 3)) (ha : T.1[a]? = some (.inr (ci, fs))) (hlen : x_kk k < fs.length) (hn : ∀ ty0 : FieldType, ((k < 1000 ∧ ty0 = FieldType.int) ∨ (1000 ≤ k ∧ k < 2000 ∧ ty0 = FieldType.boolean) ∨ (2000 ≤ k ∧ ((∃ n, ty0 = FieldType.object n) ∨ ∃ t, ty0 = FieldType.array t))) → ∀ ad : Nat → Nat, narrow ty0 (x_val ad sad v) = x_val ad sad v ∧ fits ty0 (x_val ad sad v) = true) (hWe : ∀ ad : Nat → Nat, (x_W ad C T).set a (ad a, .inr (ci, (fs.mapIdx (fun k r => x_fv ad (T.2.1 a) k r)).set (x_kk k) (x_val ad sad v))) = x_W ad C T') (h1 : T.1.length = T'.1.length) (h2 : x_z T.1 = x_z T'.1) (g : x_mo T' q.2 ∧ x_G p l e R s m args below meth c D cl C A nL n0 z0 sad ad0 Q (pc + 3) lv st2 T') : x_mo T q.2 ∧ x_G p l e R s m args below meth c D cl C A nL n0 z0 sad ad0 Q pc lv (v :: .ref a :: st2) T := by
  obtain ⟨hx, hb, hml, hown, hts, hKa, hA, hF, hG, hfr, hlo, hce, hsl, har, hXT⟩ := id hc
  obtain ⟨Cn, Tn, N, ty0, hcl, hk, hin, hty, hnm, hkind, hlink⟩ := hpk
  refine ⟨x_mo_of g.1 h1 h2, fun ad H locs cells slots ls e1 hP hD hS hl c1 c2 => ?_⟩
  have hw := x_W_get (ad := ad) (C := C) ha
  obtain ⟨n1, n2⟩ := hn _ hkind ad
  have fin : ∀ (H1 : Heap) (locs1 : List Loc), va_P D cl ((x_W ad C T).set a (ad a, .inr (ci, (fs.mapIdx (fun k r => x_fv ad (T.2.1 a) k r)).set (x_kk k) (x_val ad sad v)))) H1 → va_D A ((x_W ad C T).set a (ad a, .inr (ci, (fs.mapIdx (fun k r => x_fv ad (T.2.1 a) k r)).set (x_kk k) (x_val ad sad v)))) → va_S A s.heap H1 locs1 → W p l e R s m args below meth c H1 locs1 cells slots Q (F0 m (pc + 3) ls (st2.map (x_val ad sad))) := fun H1 locs1 hP1 hD1 hS1 => by
    rw [hWe ad] at hP1 hD1
    exact g.2 ad H1 locs1 cells slots ls e1 hP1 hD1 hS1 hl (by rw [c1, h1]) (by rw [c2, h2])
  rcases hlink with ⟨hlink | ⟨host, hlink⟩, hfin⟩ | ⟨hlink, hfin, hini, hdecl⟩
  · exact va_put hx hb hts hin ty0 hty hnm hown hKa hP hD hS _ hw hcl _ hk (hts _ hlink) (fun _ h => h) hfin (hty _ hk) n1 n2 (by rw [List.length_mapIdx]; exact hlen) hdg fin
  · exact va_putN hx hb hts hin ty0 hty hnm hown hKa hP hD hS _ hw hcl _ hk (va_Nw.use rfl hlink) (fun _ h => h) hfin (hty _ hk) n1 n2 (by rw [List.length_mapIdx]; exact hlen) hdg fin
  · exact va_putF hx hb hts hin ty0 hty hnm hown hKa hP hD hS _ hw hcl _ hk (hts _ hlink) (fun _ h => h) hfin hini hdecl (hty _ hk) n1 n2 (by rw [List.length_mapIdx]; exact hlen) hdg fin
set_option maxHeartbeats 1000000 in
theorem x_o_putf {ix ci k : Nat} (hv : Gp ix = some (.multianewarray ci k)) (hc : x_cx p R s m args meth c cc D cl C A nL n0 z0 sad own Ts F Gp XT q) (hdg : decode cc pc = .ok (.putfield ix, 3)) (hK : ∀ lv' st' T', K lv' st' T' = some q → x_mo T' q.2 ∧ x_G p l e R s m args below meth c D cl C A nL n0 z0 sad ad0 Q (pc + 3) lv' st' T') (h : x_s1 XT (.multianewarray ci k) lv st T K = some q) : x_mo T q.2 ∧ x_G p l e R s m args below meth c D cl C A nL n0 z0 sad ad0 Q pc lv st T := by
  obtain ⟨hx, hb, hml, hown, hts, hKa, hA, hF, hG, hfr, hlo, hce, hsl, har, hXT⟩ := id hc
  simp only [x_s1] at h
  split at h
  · rename_i v a st2
    split at h
    · rename_i o ha
      obtain ⟨c1', fs⟩ := o
      have hx0 := x_g_some h
      clear h
      obtain ⟨hci, h⟩ := hx0
      · simp only [Bool.and_eq_true] at hci
        obtain ⟨hc0, hk2⟩ := hci
        have hk2 := Nat.blt_eq.mp hk2
        obtain rfl := Nat.eq_of_beq_eq_true hc0
        split at h
        · rename_i hf
          have hx0 := x_g_some h
          clear h
          obtain ⟨hv0, h⟩ := hx0
          · have hv1 : k < 1000 ∨ v = 0 ∨ v = 1 := by
              simp only [Bool.or_eq_true, decide_eq_true_eq] at hv0
              rcases hv0 with h0 | h0
              · exact Or.inl (Nat.blt_eq.mp h0)
              · exact Or.inr h0
            refine x_putany hc (hG _ _ hv) hdg ha (List.getElem?_eq_some_iff.mp hf).1 (fun ty0 hk ad => ?_) (fun ad => x_W_if ha hf) rfl rfl (hK _ _ _ h)
            rcases hk with ⟨_, rfl⟩ | ⟨k1, _, rfl⟩ | ⟨k1, _⟩
            · exact ⟨rfl, rfl⟩
            · rcases hv1 with h0 | rfl | rfl
              · omega
              · exact ⟨(by decide : narrow FieldType.boolean (Value.int 0) = Value.int 0), (by decide : fits FieldType.boolean (Value.int 0) = true)⟩
              · exact ⟨(by decide : narrow FieldType.boolean (Value.int 1) = Value.int 1), (by decide : fits FieldType.boolean (Value.int 1) = true)⟩
            · omega
        · cases h
    · cases h
  · rename_i d a st2
    split at h
    · rename_i o ha
      obtain ⟨c1', fs⟩ := o
      have hx0 := x_g_some h
      clear h
      obtain ⟨hci, h⟩ := hx0
      · simp only [Bool.and_eq_true] at hci
        obtain ⟨⟨hc0, hk2⟩, hk3⟩ := hci
        have hk2 := Nat.le_of_ble_eq_true hk2
        have hk3 := Nat.blt_eq.mp hk3
        obtain rfl := Nat.eq_of_beq_eq_true hc0
        refine x_putany hc (hG _ _ hv) hdg ha hk3 (fun ty0 hk ad => ?_) (fun ad => x_W_rf ha hk3) (by simp [x_sr]) (by simp only [x_sr]; rw [x_z_set ha]; simp [x_z1]) (hK _ _ _ h)
        rcases hk with ⟨_, rfl⟩ | ⟨k1, _, rfl⟩ | ⟨k1, ⟨n, rfl⟩ | ⟨n, rfl⟩⟩
        · omega
        · omega
        · exact ⟨rfl, rfl⟩
        · exact ⟨rfl, rfl⟩
    · cases h
  · cases h
theorem x_cA {tys : List (ClassId × FieldType)} {ty : FieldType} {cA cB : ClassId} (h1 : va_RA s cA ty) (h2 : va_RA s cB ty) (hty : ty = .int ∨ ty = .boolean ∨ ty = .long) : cA = cB := by
  rcases hty with rfl | rfl | rfl
  · exact Option.some.inj (h1.symm.trans h2)
  · exact Option.some.inj (h1.symm.trans h2)
  · exact Option.some.inj (h1.symm.trans h2)
set_option maxHeartbeats 1000000 in
theorem x_o_newa {ty : ArrayType} (hc : x_cx p R s m args meth c cc D cl C A nL n0 z0 sad own Ts F Gp XT q) (hdg : decode cc pc = .ok (.newarray ty, 2)) (hK : ∀ lv' st' T', K lv' st' T' = some q → x_mo T' q.2 ∧ x_G p l e R s m args below meth c D cl C A nL n0 z0 sad ad0 Q (pc + 2) lv' st' T') (h : x_s1 XT (.newarray ty) lv st T K = some q) : x_mo T q.2 ∧ x_G p l e R s m args below meth c D cl C A nL n0 z0 sad ad0 Q pc lv st T := by
  obtain ⟨hx, hb, hml, hown, hts, hKa, hA, hF, hG, hfr, hlo, hce, hsl, har, hXT⟩ := id hc
  simp only [x_s1] at h
  split at h
  · rename_i n st2
    have hx0 := x_g_some h
    clear h
    obtain ⟨hcond, h⟩ := hx0
    · obtain ⟨k1, k2, k3, k4, k5, k6⟩ := of_decide_eq_true hcond
      have g := hK _ _ _ h
      have hmo := g.1
      unfold x_mo at hmo
      have hl1 : (x_new T (.inl (newarray.typeOf ty, n.toNatClampNeg))).1.length = T.1.length + 1 := by simp [x_new]
      have hz1 : x_z (x_new T (.inl (newarray.typeOf ty, n.toNatClampNeg))).1 = x_z T.1 + n.toNatClampNeg := by simp [x_new, x_z_app, x_z, x_z1]
      rw [hl1, hz1] at hmo
      have hty : newarray.typeOf ty = .int ∨ newarray.typeOf ty = .boolean ∨ newarray.typeOf ty = .long := by rcases k3 with rfl | rfl | rfl <;> simp [newarray.typeOf]
      refine ⟨⟨by omega, by omega⟩, fun ad H locs cells slots ls e1 hP hD hS hl c1 c2 => ?_⟩
      have har1 : Cond.arrayClass (newarray.typeOf ty) ∈ Ts := by
        rcases har (newarray.typeOf ty) with h1 | ⟨h1, h2, h3⟩
        · exact h1
        · rcases hty with h | h | h
          · exact absurd h h1
          · exact absurd h h2
          · exact absurd h h3
      refine va_newa hx hb (hts _ har1) rfl hKa hP hD hS hA (a0 := x_vp (newarray.typeOf ty) n.toNatClampNeg (fun _ => 0) (fun _ => 0)) (fun cA => ?_) k1 rfl ?_ (by omega) (by omega) hdg (fun q' cA H1 hK1 hP1 hD1 hS1 => ?_)
      · rcases k3 with rfl | rfl | rfl <;> rfl
      · rcases k3 with rfl | rfl | rfl <;> simp [newarray.typeOf, componentBytes] <;> omega
      · have hcA : cA = C (newarray.typeOf ty) := by
          have r1 := (hK1.2 3 (cA, newarray.typeOf ty) rfl).2
          rcases k3 with rfl | rfl | rfl
          · exact x_cA (tys := []) r1 (hKa.2 0 _ rfl).2 (Or.inl rfl)
          · exact x_cA (tys := []) r1 (hKa.2 1 _ rfl).2 (Or.inr (Or.inl rfl))
          · exact x_cA (tys := []) r1 (hKa.2 2 _ rfl).2 (Or.inr (Or.inr rfl))
        subst hcA
        have hWn := x_W_new (ad := ad) (C := C) (T := T) (sh := .inl (newarray.typeOf ty, n.toNatClampNeg)) (q := q') k6
        simp only [x_ent] at hWn
        rw [← hWn] at hP1 hD1
        have hex : ∀ i, i < T.1.length → va_up ad T.1.length q' i = ad i := fun i hi => x_up_n _ _ (by omega)
        have hg := g.2 (va_up ad T.1.length q') H1 locs (cells + 1) (slots + n.toNatClampNeg) ls (fun i hi => by rw [hex i (by omega)]; exact e1 i hi) hP1 hD1 hS1 (x_ls_ex hex k4 hl) (by rw [hl1]; omega) (by rw [hz1]; omega)
        simp only [List.map_cons, x_val, x_up_s] at hg
        rw [x_st_ex hex k5] at hg
        exact hg
  · cases h
end X6
