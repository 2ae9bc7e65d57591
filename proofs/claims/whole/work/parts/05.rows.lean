section X5
variable {p : Program} {l : Launch} {e : Env} {R : Room} {s : State} {m : MethodId} {args : Array Value} {below : List Frame} {meth : Method} {c : Code} {Q : State → Prop} {cc : ByteArray} {D : va_G} {cl : List vw_C} {C : FieldType → ClassId} {A : Nat → Prop} {nL n0 z0 : Nat} {sad ad0 : Nat → Nat} {own : String} {Ts : List Cond} {F Gp : Nat → Option Instr} {pc len : Nat} {lv lv' : x_L} {st st' : List Value} {T T' : x_T} {q : Option Value × x_T} {K : x_L → List Value → x_T → x_Z} {raw res : Instr} {XT : x_Xt}
set_option maxHeartbeats 1000000 in
theorem x_o_iadd  (hc : x_cx p R s m args meth c cc D cl C A nL n0 z0 sad own Ts F Gp XT q) (hdg : decode cc pc = .ok (.iadd, 1)) (hK : ∀ lv' st' T', K lv' st' T' = some q → x_mo T' q.2 ∧ x_G p l e R s m args below meth c D cl C A nL n0 z0 sad ad0 Q (pc + 1) lv' st' T') (h : x_s1 XT (.iadd) lv st T K = some q) : x_mo T q.2 ∧ x_G p l e R s m args below meth c D cl C A nL n0 z0 sad ad0 Q pc lv st T := by
  obtain ⟨hx, hb, hml, hown, hts, hKa, hA, hF, hG, hfr, hlo, hce, hsl, har, hXT⟩ := id hc
  simp only [x_s1] at h
  split at h
  · exact x_go (hK _ _ _ h) (fun ad H locs cells slots ls hP hD hS hl g => lv_iadd hx hb hdg g)
  · cases h
set_option maxHeartbeats 1000000 in
theorem x_o_isub  (hc : x_cx p R s m args meth c cc D cl C A nL n0 z0 sad own Ts F Gp XT q) (hdg : decode cc pc = .ok (.isub, 1)) (hK : ∀ lv' st' T', K lv' st' T' = some q → x_mo T' q.2 ∧ x_G p l e R s m args below meth c D cl C A nL n0 z0 sad ad0 Q (pc + 1) lv' st' T') (h : x_s1 XT (.isub) lv st T K = some q) : x_mo T q.2 ∧ x_G p l e R s m args below meth c D cl C A nL n0 z0 sad ad0 Q pc lv st T := by
  obtain ⟨hx, hb, hml, hown, hts, hKa, hA, hF, hG, hfr, hlo, hce, hsl, har, hXT⟩ := id hc
  simp only [x_s1] at h
  split at h
  · exact x_go (hK _ _ _ h) (fun ad H locs cells slots ls hP hD hS hl g => lv_isub hx hb hdg g)
  · cases h
set_option maxHeartbeats 1000000 in
theorem x_o_imul  (hc : x_cx p R s m args meth c cc D cl C A nL n0 z0 sad own Ts F Gp XT q) (hdg : decode cc pc = .ok (.imul, 1)) (hK : ∀ lv' st' T', K lv' st' T' = some q → x_mo T' q.2 ∧ x_G p l e R s m args below meth c D cl C A nL n0 z0 sad ad0 Q (pc + 1) lv' st' T') (h : x_s1 XT (.imul) lv st T K = some q) : x_mo T q.2 ∧ x_G p l e R s m args below meth c D cl C A nL n0 z0 sad ad0 Q pc lv st T := by
  obtain ⟨hx, hb, hml, hown, hts, hKa, hA, hF, hG, hfr, hlo, hce, hsl, har, hXT⟩ := id hc
  simp only [x_s1] at h
  split at h
  · exact x_go (hK _ _ _ h) (fun ad H locs cells slots ls hP hD hS hl g => lv_imul hx hb hdg g)
  · cases h
set_option maxHeartbeats 1000000 in
theorem x_o_iand  (hc : x_cx p R s m args meth c cc D cl C A nL n0 z0 sad own Ts F Gp XT q) (hdg : decode cc pc = .ok (.iand, 1)) (hK : ∀ lv' st' T', K lv' st' T' = some q → x_mo T' q.2 ∧ x_G p l e R s m args below meth c D cl C A nL n0 z0 sad ad0 Q (pc + 1) lv' st' T') (h : x_s1 XT (.iand) lv st T K = some q) : x_mo T q.2 ∧ x_G p l e R s m args below meth c D cl C A nL n0 z0 sad ad0 Q pc lv st T := by
  obtain ⟨hx, hb, hml, hown, hts, hKa, hA, hF, hG, hfr, hlo, hce, hsl, har, hXT⟩ := id hc
  simp only [x_s1] at h
  split at h
  · exact x_go (hK _ _ _ h) (fun ad H locs cells slots ls hP hD hS hl g => lv_iand hx hb hdg g)
  · cases h
set_option maxHeartbeats 1000000 in
theorem x_o_ior  (hc : x_cx p R s m args meth c cc D cl C A nL n0 z0 sad own Ts F Gp XT q) (hdg : decode cc pc = .ok (.ior, 1)) (hK : ∀ lv' st' T', K lv' st' T' = some q → x_mo T' q.2 ∧ x_G p l e R s m args below meth c D cl C A nL n0 z0 sad ad0 Q (pc + 1) lv' st' T') (h : x_s1 XT (.ior) lv st T K = some q) : x_mo T q.2 ∧ x_G p l e R s m args below meth c D cl C A nL n0 z0 sad ad0 Q pc lv st T := by
  obtain ⟨hx, hb, hml, hown, hts, hKa, hA, hF, hG, hfr, hlo, hce, hsl, har, hXT⟩ := id hc
  simp only [x_s1] at h
  split at h
  · exact x_go (hK _ _ _ h) (fun ad H locs cells slots ls hP hD hS hl g => lv_ior hx hb hdg g)
  · cases h
set_option maxHeartbeats 1000000 in
theorem x_o_ishl  (hc : x_cx p R s m args meth c cc D cl C A nL n0 z0 sad own Ts F Gp XT q) (hdg : decode cc pc = .ok (.ishl, 1)) (hK : ∀ lv' st' T', K lv' st' T' = some q → x_mo T' q.2 ∧ x_G p l e R s m args below meth c D cl C A nL n0 z0 sad ad0 Q (pc + 1) lv' st' T') (h : x_s1 XT (.ishl) lv st T K = some q) : x_mo T q.2 ∧ x_G p l e R s m args below meth c D cl C A nL n0 z0 sad ad0 Q pc lv st T := by
  obtain ⟨hx, hb, hml, hown, hts, hKa, hA, hF, hG, hfr, hlo, hce, hsl, har, hXT⟩ := id hc
  simp only [x_s1] at h
  split at h
  · exact x_go (hK _ _ _ h) (fun ad H locs cells slots ls hP hD hS hl g => lv_ishl hx hb hdg g)
  · cases h
set_option maxHeartbeats 1000000 in
theorem x_o_ishr  (hc : x_cx p R s m args meth c cc D cl C A nL n0 z0 sad own Ts F Gp XT q) (hdg : decode cc pc = .ok (.ishr, 1)) (hK : ∀ lv' st' T', K lv' st' T' = some q → x_mo T' q.2 ∧ x_G p l e R s m args below meth c D cl C A nL n0 z0 sad ad0 Q (pc + 1) lv' st' T') (h : x_s1 XT (.ishr) lv st T K = some q) : x_mo T q.2 ∧ x_G p l e R s m args below meth c D cl C A nL n0 z0 sad ad0 Q pc lv st T := by
  obtain ⟨hx, hb, hml, hown, hts, hKa, hA, hF, hG, hfr, hlo, hce, hsl, har, hXT⟩ := id hc
  simp only [x_s1] at h
  split at h
  · exact x_go (hK _ _ _ h) (fun ad H locs cells slots ls hP hD hS hl g => lv_ishr hx hb hdg g)
  · cases h
set_option maxHeartbeats 1000000 in
theorem x_o_ladd  (hc : x_cx p R s m args meth c cc D cl C A nL n0 z0 sad own Ts F Gp XT q) (hdg : decode cc pc = .ok (.ladd, 1)) (hK : ∀ lv' st' T', K lv' st' T' = some q → x_mo T' q.2 ∧ x_G p l e R s m args below meth c D cl C A nL n0 z0 sad ad0 Q (pc + 1) lv' st' T') (h : x_s1 XT (.ladd) lv st T K = some q) : x_mo T q.2 ∧ x_G p l e R s m args below meth c D cl C A nL n0 z0 sad ad0 Q pc lv st T := by
  obtain ⟨hx, hb, hml, hown, hts, hKa, hA, hF, hG, hfr, hlo, hce, hsl, har, hXT⟩ := id hc
  simp only [x_s1] at h
  split at h
  · exact x_go (hK _ _ _ h) (fun ad H locs cells slots ls hP hD hS hl g => lv_ladd hx hb hdg g)
  · cases h
set_option maxHeartbeats 1000000 in
theorem x_o_lmul  (hc : x_cx p R s m args meth c cc D cl C A nL n0 z0 sad own Ts F Gp XT q) (hdg : decode cc pc = .ok (.lmul, 1)) (hK : ∀ lv' st' T', K lv' st' T' = some q → x_mo T' q.2 ∧ x_G p l e R s m args below meth c D cl C A nL n0 z0 sad ad0 Q (pc + 1) lv' st' T') (h : x_s1 XT (.lmul) lv st T K = some q) : x_mo T q.2 ∧ x_G p l e R s m args below meth c D cl C A nL n0 z0 sad ad0 Q pc lv st T := by
  obtain ⟨hx, hb, hml, hown, hts, hKa, hA, hF, hG, hfr, hlo, hce, hsl, har, hXT⟩ := id hc
  simp only [x_s1] at h
  split at h
  · exact x_go (hK _ _ _ h) (fun ad H locs cells slots ls hP hD hS hl g => lv_lmul hx hb hdg g)
  · cases h
set_option maxHeartbeats 1000000 in
theorem x_o_land  (hc : x_cx p R s m args meth c cc D cl C A nL n0 z0 sad own Ts F Gp XT q) (hdg : decode cc pc = .ok (.land, 1)) (hK : ∀ lv' st' T', K lv' st' T' = some q → x_mo T' q.2 ∧ x_G p l e R s m args below meth c D cl C A nL n0 z0 sad ad0 Q (pc + 1) lv' st' T') (h : x_s1 XT (.land) lv st T K = some q) : x_mo T q.2 ∧ x_G p l e R s m args below meth c D cl C A nL n0 z0 sad ad0 Q pc lv st T := by
  obtain ⟨hx, hb, hml, hown, hts, hKa, hA, hF, hG, hfr, hlo, hce, hsl, har, hXT⟩ := id hc
  simp only [x_s1] at h
  split at h
  · exact x_go (hK _ _ _ h) (fun ad H locs cells slots ls hP hD hS hl g => lv_land hx hb hdg g)
  · cases h
set_option maxHeartbeats 1000000 in
theorem x_o_lor  (hc : x_cx p R s m args meth c cc D cl C A nL n0 z0 sad own Ts F Gp XT q) (hdg : decode cc pc = .ok (.lor, 1)) (hK : ∀ lv' st' T', K lv' st' T' = some q → x_mo T' q.2 ∧ x_G p l e R s m args below meth c D cl C A nL n0 z0 sad ad0 Q (pc + 1) lv' st' T') (h : x_s1 XT (.lor) lv st T K = some q) : x_mo T q.2 ∧ x_G p l e R s m args below meth c D cl C A nL n0 z0 sad ad0 Q pc lv st T := by
  obtain ⟨hx, hb, hml, hown, hts, hKa, hA, hF, hG, hfr, hlo, hce, hsl, har, hXT⟩ := id hc
  simp only [x_s1] at h
  split at h
  · exact x_go (hK _ _ _ h) (fun ad H locs cells slots ls hP hD hS hl g => lv_lor hx hb hdg g)
  · cases h
set_option maxHeartbeats 1000000 in
theorem x_o_iushr  (hc : x_cx p R s m args meth c cc D cl C A nL n0 z0 sad own Ts F Gp XT q) (hdg : decode cc pc = .ok (.iushr, 1)) (hK : ∀ lv' st' T', K lv' st' T' = some q → x_mo T' q.2 ∧ x_G p l e R s m args below meth c D cl C A nL n0 z0 sad ad0 Q (pc + 1) lv' st' T') (h : x_s1 XT (.iushr) lv st T K = some q) : x_mo T q.2 ∧ x_G p l e R s m args below meth c D cl C A nL n0 z0 sad ad0 Q pc lv st T := by
  obtain ⟨hx, hb, hml, hown, hts, hKa, hA, hF, hG, hfr, hlo, hce, hsl, har, hXT⟩ := id hc
  simp only [x_s1] at h
  split at h
  · exact x_go (hK _ _ _ h) (fun ad H locs cells slots ls hP hD hS hl g => lv_iushr hx hb hdg rfl g)
  · cases h
set_option maxHeartbeats 1000000 in
theorem x_o_lshl  (hc : x_cx p R s m args meth c cc D cl C A nL n0 z0 sad own Ts F Gp XT q) (hdg : decode cc pc = .ok (.lshl, 1)) (hK : ∀ lv' st' T', K lv' st' T' = some q → x_mo T' q.2 ∧ x_G p l e R s m args below meth c D cl C A nL n0 z0 sad ad0 Q (pc + 1) lv' st' T') (h : x_s1 XT (.lshl) lv st T K = some q) : x_mo T q.2 ∧ x_G p l e R s m args below meth c D cl C A nL n0 z0 sad ad0 Q pc lv st T := by
  obtain ⟨hx, hb, hml, hown, hts, hKa, hA, hF, hG, hfr, hlo, hce, hsl, har, hXT⟩ := id hc
  simp only [x_s1] at h
  split at h
  · exact x_go (hK _ _ _ h) (fun ad H locs cells slots ls hP hD hS hl g => lv_lshl hx hb hdg rfl g)
  · cases h
set_option maxHeartbeats 1000000 in
theorem x_o_lushr  (hc : x_cx p R s m args meth c cc D cl C A nL n0 z0 sad own Ts F Gp XT q) (hdg : decode cc pc = .ok (.lushr, 1)) (hK : ∀ lv' st' T', K lv' st' T' = some q → x_mo T' q.2 ∧ x_G p l e R s m args below meth c D cl C A nL n0 z0 sad ad0 Q (pc + 1) lv' st' T') (h : x_s1 XT (.lushr) lv st T K = some q) : x_mo T q.2 ∧ x_G p l e R s m args below meth c D cl C A nL n0 z0 sad ad0 Q pc lv st T := by
  obtain ⟨hx, hb, hml, hown, hts, hKa, hA, hF, hG, hfr, hlo, hce, hsl, har, hXT⟩ := id hc
  simp only [x_s1] at h
  split at h
  · exact x_go (hK _ _ _ h) (fun ad H locs cells slots ls hP hD hS hl g => lv_lushr hx hb hdg rfl g)
  · cases h
set_option maxHeartbeats 1000000 in
theorem x_o_lcmp  (hc : x_cx p R s m args meth c cc D cl C A nL n0 z0 sad own Ts F Gp XT q) (hdg : decode cc pc = .ok (.lcmp, 1)) (hK : ∀ lv' st' T', K lv' st' T' = some q → x_mo T' q.2 ∧ x_G p l e R s m args below meth c D cl C A nL n0 z0 sad ad0 Q (pc + 1) lv' st' T') (h : x_s1 XT (.lcmp) lv st T K = some q) : x_mo T q.2 ∧ x_G p l e R s m args below meth c D cl C A nL n0 z0 sad ad0 Q pc lv st T := by
  obtain ⟨hx, hb, hml, hown, hts, hKa, hA, hF, hG, hfr, hlo, hce, hsl, har, hXT⟩ := id hc
  simp only [x_s1] at h
  split at h
  · exact x_go (hK _ _ _ h) (fun ad H locs cells slots ls hP hD hS hl g => W.lcmp hx hb hdg g)
  · cases h
set_option maxHeartbeats 1000000 in
theorem x_o_i2l  (hc : x_cx p R s m args meth c cc D cl C A nL n0 z0 sad own Ts F Gp XT q) (hdg : decode cc pc = .ok (.i2l, 1)) (hK : ∀ lv' st' T', K lv' st' T' = some q → x_mo T' q.2 ∧ x_G p l e R s m args below meth c D cl C A nL n0 z0 sad ad0 Q (pc + 1) lv' st' T') (h : x_s1 XT (.i2l) lv st T K = some q) : x_mo T q.2 ∧ x_G p l e R s m args below meth c D cl C A nL n0 z0 sad ad0 Q pc lv st T := by
  obtain ⟨hx, hb, hml, hown, hts, hKa, hA, hF, hG, hfr, hlo, hce, hsl, har, hXT⟩ := id hc
  simp only [x_s1] at h
  split at h
  · exact x_go (hK _ _ _ h) (fun ad H locs cells slots ls hP hD hS hl g => lv_i2l hx hb hdg rfl g)
  · cases h
set_option maxHeartbeats 1000000 in
theorem x_o_l2i  (hc : x_cx p R s m args meth c cc D cl C A nL n0 z0 sad own Ts F Gp XT q) (hdg : decode cc pc = .ok (.l2i, 1)) (hK : ∀ lv' st' T', K lv' st' T' = some q → x_mo T' q.2 ∧ x_G p l e R s m args below meth c D cl C A nL n0 z0 sad ad0 Q (pc + 1) lv' st' T') (h : x_s1 XT (.l2i) lv st T K = some q) : x_mo T q.2 ∧ x_G p l e R s m args below meth c D cl C A nL n0 z0 sad ad0 Q pc lv st T := by
  obtain ⟨hx, hb, hml, hown, hts, hKa, hA, hF, hG, hfr, hlo, hce, hsl, har, hXT⟩ := id hc
  simp only [x_s1] at h
  split at h
  · exact x_go (hK _ _ _ h) (fun ad H locs cells slots ls hP hD hS hl g => lv_l2i hx hb hdg rfl g)
  · cases h
set_option maxHeartbeats 1000000 in
theorem x_o_i2c  (hc : x_cx p R s m args meth c cc D cl C A nL n0 z0 sad own Ts F Gp XT q) (hdg : decode cc pc = .ok (.i2c, 1)) (hK : ∀ lv' st' T', K lv' st' T' = some q → x_mo T' q.2 ∧ x_G p l e R s m args below meth c D cl C A nL n0 z0 sad ad0 Q (pc + 1) lv' st' T') (h : x_s1 XT (.i2c) lv st T K = some q) : x_mo T q.2 ∧ x_G p l e R s m args below meth c D cl C A nL n0 z0 sad ad0 Q pc lv st T := by
  obtain ⟨hx, hb, hml, hown, hts, hKa, hA, hF, hG, hfr, hlo, hce, hsl, har, hXT⟩ := id hc
  simp only [x_s1] at h
  split at h
  · exact x_go (hK _ _ _ h) (fun ad H locs cells slots ls hP hD hS hl g => lv_i2c hx hb hdg rfl g)
  · cases h
set_option maxHeartbeats 1000000 in
theorem x_o_idiv  (hc : x_cx p R s m args meth c cc D cl C A nL n0 z0 sad own Ts F Gp XT q) (hdg : decode cc pc = .ok (.idiv, 1)) (hK : ∀ lv' st' T', K lv' st' T' = some q → x_mo T' q.2 ∧ x_G p l e R s m args below meth c D cl C A nL n0 z0 sad ad0 Q (pc + 1) lv' st' T') (h : x_s1 XT (.idiv) lv st T K = some q) : x_mo T q.2 ∧ x_G p l e R s m args below meth c D cl C A nL n0 z0 sad ad0 Q pc lv st T := by
  obtain ⟨hx, hb, hml, hown, hts, hKa, hA, hF, hG, hfr, hlo, hce, hsl, har, hXT⟩ := id hc
  simp only [x_s1] at h
  split at h
  · split at h
    · cases h
    · rename_i hz
      exact x_go (hK _ _ _ h) (fun ad H locs cells slots ls hP hD hS hl g => lv_idiv hx hb hdg hz g)
  · cases h
set_option maxHeartbeats 1000000 in
theorem x_o_irem  (hc : x_cx p R s m args meth c cc D cl C A nL n0 z0 sad own Ts F Gp XT q) (hdg : decode cc pc = .ok (.irem, 1)) (hK : ∀ lv' st' T', K lv' st' T' = some q → x_mo T' q.2 ∧ x_G p l e R s m args below meth c D cl C A nL n0 z0 sad ad0 Q (pc + 1) lv' st' T') (h : x_s1 XT (.irem) lv st T K = some q) : x_mo T q.2 ∧ x_G p l e R s m args below meth c D cl C A nL n0 z0 sad ad0 Q pc lv st T := by
  obtain ⟨hx, hb, hml, hown, hts, hKa, hA, hF, hG, hfr, hlo, hce, hsl, har, hXT⟩ := id hc
  simp only [x_s1] at h
  split at h
  · split at h
    · cases h
    · rename_i hz
      exact x_go (hK _ _ _ h) (fun ad H locs cells slots ls hP hD hS hl g => lv_irem hx hb hdg hz g)
  · cases h
set_option maxHeartbeats 1000000 in
theorem x_o_ldiv  (hc : x_cx p R s m args meth c cc D cl C A nL n0 z0 sad own Ts F Gp XT q) (hdg : decode cc pc = .ok (.ldiv, 1)) (hK : ∀ lv' st' T', K lv' st' T' = some q → x_mo T' q.2 ∧ x_G p l e R s m args below meth c D cl C A nL n0 z0 sad ad0 Q (pc + 1) lv' st' T') (h : x_s1 XT (.ldiv) lv st T K = some q) : x_mo T q.2 ∧ x_G p l e R s m args below meth c D cl C A nL n0 z0 sad ad0 Q pc lv st T := by
  obtain ⟨hx, hb, hml, hown, hts, hKa, hA, hF, hG, hfr, hlo, hce, hsl, har, hXT⟩ := id hc
  simp only [x_s1] at h
  split at h
  · split at h
    · cases h
    · rename_i hz
      exact x_go (hK _ _ _ h) (fun ad H locs cells slots ls hP hD hS hl g => lv_ldiv hx hb hdg hz g)
  · cases h
set_option maxHeartbeats 1000000 in
theorem x_o_iconst {v : Int} (hc : x_cx p R s m args meth c cc D cl C A nL n0 z0 sad own Ts F Gp XT q) (hdg : decode cc pc = .ok (.iconst v, 1)) (hK : ∀ lv' st' T', K lv' st' T' = some q → x_mo T' q.2 ∧ x_G p l e R s m args below meth c D cl C A nL n0 z0 sad ad0 Q (pc + 1) lv' st' T') (h : x_s1 XT (.iconst v) lv st T K = some q) : x_mo T q.2 ∧ x_G p l e R s m args below meth c D cl C A nL n0 z0 sad ad0 Q pc lv st T := by
  obtain ⟨hx, hb, hml, hown, hts, hKa, hA, hF, hG, hfr, hlo, hce, hsl, har, hXT⟩ := id hc
  simp only [x_s1] at h
  exact x_go (hK _ _ _ h) (fun ad H locs cells slots ls hP hD hS hl g => lv_iconst hx hb hdg rfl g)
set_option maxHeartbeats 1000000 in
theorem x_o_bipush {v : Int} (hv : (Int8.ofInt v).toInt32 = Int32.ofInt v) (hc : x_cx p R s m args meth c cc D cl C A nL n0 z0 sad own Ts F Gp XT q) (hdg : decode cc pc = .ok (.bipush v, 2)) (hK : ∀ lv' st' T', K lv' st' T' = some q → x_mo T' q.2 ∧ x_G p l e R s m args below meth c D cl C A nL n0 z0 sad ad0 Q (pc + 2) lv' st' T') (h : x_s1 XT (.iconst v) lv st T K = some q) : x_mo T q.2 ∧ x_G p l e R s m args below meth c D cl C A nL n0 z0 sad ad0 Q pc lv st T := by
  obtain ⟨hx, hb, hml, hown, hts, hKa, hA, hF, hG, hfr, hlo, hce, hsl, har, hXT⟩ := id hc
  simp only [x_s1] at h
  exact x_go (hK _ _ _ h) (fun ad H locs cells slots ls hP hD hS hl g => lv_bipush hx hb hdg hv g)
set_option maxHeartbeats 1000000 in
theorem x_o_sipush {v : Int} (hv : (Int16.ofInt v).toInt32 = Int32.ofInt v) (hc : x_cx p R s m args meth c cc D cl C A nL n0 z0 sad own Ts F Gp XT q) (hdg : decode cc pc = .ok (.sipush v, 3)) (hK : ∀ lv' st' T', K lv' st' T' = some q → x_mo T' q.2 ∧ x_G p l e R s m args below meth c D cl C A nL n0 z0 sad ad0 Q (pc + 3) lv' st' T') (h : x_s1 XT (.iconst v) lv st T K = some q) : x_mo T q.2 ∧ x_G p l e R s m args below meth c D cl C A nL n0 z0 sad ad0 Q pc lv st T := by
  obtain ⟨hx, hb, hml, hown, hts, hKa, hA, hF, hG, hfr, hlo, hce, hsl, har, hXT⟩ := id hc
  simp only [x_s1] at h
  exact x_go (hK _ _ _ h) (fun ad H locs cells slots ls hP hD hS hl g => lv_sipush hx hb hdg hv g)
set_option maxHeartbeats 1000000 in
theorem x_o_lconst {v : Fin 2} (hc : x_cx p R s m args meth c cc D cl C A nL n0 z0 sad own Ts F Gp XT q) (hdg : decode cc pc = .ok (.lconst v, 1)) (hK : ∀ lv' st' T', K lv' st' T' = some q → x_mo T' q.2 ∧ x_G p l e R s m args below meth c D cl C A nL n0 z0 sad ad0 Q (pc + 1) lv' st' T') (h : x_s1 XT (.jsr ((v : Nat) : Int)) lv st T K = some q) : x_mo T q.2 ∧ x_G p l e R s m args below meth c D cl C A nL n0 z0 sad ad0 Q pc lv st T := by
  obtain ⟨hx, hb, hml, hown, hts, hKa, hA, hF, hG, hfr, hlo, hce, hsl, har, hXT⟩ := id hc
  simp only [x_s1] at h
  exact x_go (hK _ _ _ h) (fun ad H locs cells slots ls hP hD hS hl g => lv_lconst hx hb hdg ((by decide : ∀ v : Fin 2, Int64.ofNat (v : Nat) = Int64.ofInt ((v : Nat) : Int)) v) g)
set_option maxHeartbeats 1000000 in
theorem x_o_ldc {v : Int} {ix : Nat} (hv : F ix = some (.iconst v)) (hc : x_cx p R s m args meth c cc D cl C A nL n0 z0 sad own Ts F Gp XT q) (hdg : decode cc pc = .ok (.ldc ix, 2)) (hK : ∀ lv' st' T', K lv' st' T' = some q → x_mo T' q.2 ∧ x_G p l e R s m args below meth c D cl C A nL n0 z0 sad ad0 Q (pc + 2) lv' st' T') (h : x_s1 XT (.iconst v) lv st T K = some q) : x_mo T q.2 ∧ x_G p l e R s m args below meth c D cl C A nL n0 z0 sad ad0 Q pc lv st T := by
  obtain ⟨hx, hb, hml, hown, hts, hKa, hA, hF, hG, hfr, hlo, hce, hsl, har, hXT⟩ := id hc
  simp only [x_s1] at h
  exact x_go (hK _ _ _ h) (fun ad H locs cells slots ls hP hD hS hl g => lv_ldc hx hb hown (hts _ (hF _ _ hv)) hdg g)
set_option maxHeartbeats 1000000 in
theorem x_o_ldcw {v : Int} {ix : Nat} (hv : F ix = some (.iconst v)) (hc : x_cx p R s m args meth c cc D cl C A nL n0 z0 sad own Ts F Gp XT q) (hdg : decode cc pc = .ok (.ldc_w ix, 3)) (hK : ∀ lv' st' T', K lv' st' T' = some q → x_mo T' q.2 ∧ x_G p l e R s m args below meth c D cl C A nL n0 z0 sad ad0 Q (pc + 3) lv' st' T') (h : x_s1 XT (.iconst v) lv st T K = some q) : x_mo T q.2 ∧ x_G p l e R s m args below meth c D cl C A nL n0 z0 sad ad0 Q pc lv st T := by
  obtain ⟨hx, hb, hml, hown, hts, hKa, hA, hF, hG, hfr, hlo, hce, hsl, har, hXT⟩ := id hc
  simp only [x_s1] at h
  exact x_go (hK _ _ _ h) (fun ad H locs cells slots ls hP hD hS hl g => lv_ldcw hx hb hown (hts _ (hF _ _ hv)) hdg g)
set_option maxHeartbeats 1000000 in
theorem x_o_ldc2 {v : Int} {ix : Nat} (hv : F ix = some (.jsr v)) (hc : x_cx p R s m args meth c cc D cl C A nL n0 z0 sad own Ts F Gp XT q) (hdg : decode cc pc = .ok (.ldc2_w ix, 3)) (hK : ∀ lv' st' T', K lv' st' T' = some q → x_mo T' q.2 ∧ x_G p l e R s m args below meth c D cl C A nL n0 z0 sad ad0 Q (pc + 3) lv' st' T') (h : x_s1 XT (.jsr v) lv st T K = some q) : x_mo T q.2 ∧ x_G p l e R s m args below meth c D cl C A nL n0 z0 sad ad0 Q pc lv st T := by
  obtain ⟨hx, hb, hml, hown, hts, hKa, hA, hF, hG, hfr, hlo, hce, hsl, har, hXT⟩ := id hc
  simp only [x_s1] at h
  exact x_go (hK _ _ _ h) (fun ad H locs cells slots ls hP hD hS hl g => lv_ldc2 hx hb hown (hts _ (hF _ _ hv)) hdg g)
set_option maxHeartbeats 1000000 in
theorem x_o_ldcS {j ix : Nat} (hv : F ix = some (.ldc j)) (hc : x_cx p R s m args meth c cc D cl C A nL n0 z0 sad own Ts F Gp XT q) (hdg : decode cc pc = .ok (.ldc ix, 2)) (hK : ∀ lv' st' T', K lv' st' T' = some q → x_mo T' q.2 ∧ x_G p l e R s m args below meth c D cl C A nL n0 z0 sad ad0 Q (pc + 2) lv' st' T') (h : x_s1 XT (.ldc j) lv st T K = some q) : x_mo T q.2 ∧ x_G p l e R s m args below meth c D cl C A nL n0 z0 sad ad0 Q pc lv st T := by
  obtain ⟨hx, hb, hml, hown, hts, hKa, hA, hF, hG, hfr, hlo, hce, hsl, har, hXT⟩ := id hc
  simp only [x_s1] at h
  obtain ⟨tx, htx⟩ := hF _ _ hv
  exact x_go (hK _ _ _ h) (fun ad H locs cells slots ls hP hD hS hl g => va_ldcS hx hb hown htx hdg g)
set_option maxHeartbeats 1000000 in
theorem x_o_iload {i : Nat} (hc : x_cx p R s m args meth c cc D cl C A nL n0 z0 sad own Ts F Gp XT q) (hdg : decode cc pc = .ok (.iload i, 2)) (hK : ∀ lv' st' T', K lv' st' T' = some q → x_mo T' q.2 ∧ x_G p l e R s m args below meth c D cl C A nL n0 z0 sad ad0 Q (pc + 2) lv' st' T') (h : x_s1 XT (.iload i) lv st T K = some q) : x_mo T q.2 ∧ x_G p l e R s m args below meth c D cl C A nL n0 z0 sad ad0 Q pc lv st T := by
  obtain ⟨hx, hb, hml, hown, hts, hKa, hA, hF, hG, hfr, hlo, hce, hsl, har, hXT⟩ := id hc
  simp only [x_s1] at h
  split at h
  · rename_i hj
    exact x_go (hK _ _ _ h) (fun ad H locs cells slots ls hP hD hS hl g => lv_iload hx hb hdg (x_ls_get hl hj) g)
  · cases h
set_option maxHeartbeats 1000000 in
theorem x_o_iload_n {k : Fin 4} (hc : x_cx p R s m args meth c cc D cl C A nL n0 z0 sad own Ts F Gp XT q) (hdg : decode cc pc = .ok (.iload_n k, 1)) (hK : ∀ lv' st' T', K lv' st' T' = some q → x_mo T' q.2 ∧ x_G p l e R s m args below meth c D cl C A nL n0 z0 sad ad0 Q (pc + 1) lv' st' T') (h : x_s1 XT (.iload (k : Nat)) lv st T K = some q) : x_mo T q.2 ∧ x_G p l e R s m args below meth c D cl C A nL n0 z0 sad ad0 Q pc lv st T := by
  obtain ⟨hx, hb, hml, hown, hts, hKa, hA, hF, hG, hfr, hlo, hce, hsl, har, hXT⟩ := id hc
  simp only [x_s1] at h
  split at h
  · rename_i hj
    exact x_go (hK _ _ _ h) (fun ad H locs cells slots ls hP hD hS hl g => lv_iload_n hx hb hdg rfl (x_ls_get hl hj) g)
  · cases h
set_option maxHeartbeats 1000000 in
theorem x_o_lload {i : Nat} (hc : x_cx p R s m args meth c cc D cl C A nL n0 z0 sad own Ts F Gp XT q) (hdg : decode cc pc = .ok (.lload i, 2)) (hK : ∀ lv' st' T', K lv' st' T' = some q → x_mo T' q.2 ∧ x_G p l e R s m args below meth c D cl C A nL n0 z0 sad ad0 Q (pc + 2) lv' st' T') (h : x_s1 XT (.lload i) lv st T K = some q) : x_mo T q.2 ∧ x_G p l e R s m args below meth c D cl C A nL n0 z0 sad ad0 Q pc lv st T := by
  obtain ⟨hx, hb, hml, hown, hts, hKa, hA, hF, hG, hfr, hlo, hce, hsl, har, hXT⟩ := id hc
  simp only [x_s1] at h
  split at h
  · rename_i hj
    exact x_go (hK _ _ _ h) (fun ad H locs cells slots ls hP hD hS hl g => lv_lload hx hb hdg (x_ls_get hl hj) g)
  · cases h
set_option maxHeartbeats 1000000 in
theorem x_o_lload_n {k : Fin 4} (hc : x_cx p R s m args meth c cc D cl C A nL n0 z0 sad own Ts F Gp XT q) (hdg : decode cc pc = .ok (.lload_n k, 1)) (hK : ∀ lv' st' T', K lv' st' T' = some q → x_mo T' q.2 ∧ x_G p l e R s m args below meth c D cl C A nL n0 z0 sad ad0 Q (pc + 1) lv' st' T') (h : x_s1 XT (.lload (k : Nat)) lv st T K = some q) : x_mo T q.2 ∧ x_G p l e R s m args below meth c D cl C A nL n0 z0 sad ad0 Q pc lv st T := by
  obtain ⟨hx, hb, hml, hown, hts, hKa, hA, hF, hG, hfr, hlo, hce, hsl, har, hXT⟩ := id hc
  simp only [x_s1] at h
  split at h
  · rename_i hj
    exact x_go (hK _ _ _ h) (fun ad H locs cells slots ls hP hD hS hl g => lv_lload_n hx hb hdg rfl (x_ls_get hl hj) g)
  · cases h
set_option maxHeartbeats 1000000 in
theorem x_o_aload {i : Nat} (hc : x_cx p R s m args meth c cc D cl C A nL n0 z0 sad own Ts F Gp XT q) (hdg : decode cc pc = .ok (.aload i, 2)) (hK : ∀ lv' st' T', K lv' st' T' = some q → x_mo T' q.2 ∧ x_G p l e R s m args below meth c D cl C A nL n0 z0 sad ad0 Q (pc + 2) lv' st' T') (h : x_s1 XT (.aload i) lv st T K = some q) : x_mo T q.2 ∧ x_G p l e R s m args below meth c D cl C A nL n0 z0 sad ad0 Q pc lv st T := by
  obtain ⟨hx, hb, hml, hown, hts, hKa, hA, hF, hG, hfr, hlo, hce, hsl, har, hXT⟩ := id hc
  simp only [x_s1] at h
  split at h
  · rename_i hj
    exact x_go (hK _ _ _ h) (fun ad H locs cells slots ls hP hD hS hl g => lv_aload hx hb hdg (x_ls_get hl hj) g)
  · rename_i hj
    exact x_go (hK _ _ _ h) (fun ad H locs cells slots ls hP hD hS hl g => lv_aload hx hb hdg (x_ls_get hl hj) g)
  · cases h
set_option maxHeartbeats 1000000 in
theorem x_o_aload_n {k : Fin 4} (hc : x_cx p R s m args meth c cc D cl C A nL n0 z0 sad own Ts F Gp XT q) (hdg : decode cc pc = .ok (.aload_n k, 1)) (hK : ∀ lv' st' T', K lv' st' T' = some q → x_mo T' q.2 ∧ x_G p l e R s m args below meth c D cl C A nL n0 z0 sad ad0 Q (pc + 1) lv' st' T') (h : x_s1 XT (.aload (k : Nat)) lv st T K = some q) : x_mo T q.2 ∧ x_G p l e R s m args below meth c D cl C A nL n0 z0 sad ad0 Q pc lv st T := by
  obtain ⟨hx, hb, hml, hown, hts, hKa, hA, hF, hG, hfr, hlo, hce, hsl, har, hXT⟩ := id hc
  simp only [x_s1] at h
  split at h
  · rename_i hj
    exact x_go (hK _ _ _ h) (fun ad H locs cells slots ls hP hD hS hl g => lv_aload_n hx hb hdg rfl (x_ls_get hl hj) g)
  · rename_i hj
    exact x_go (hK _ _ _ h) (fun ad H locs cells slots ls hP hD hS hl g => lv_aload_n hx hb hdg rfl (x_ls_get hl hj) g)
  · cases h
set_option maxHeartbeats 1000000 in
theorem x_o_istore {k : Nat} (hc : x_cx p R s m args meth c cc D cl C A nL n0 z0 sad own Ts F Gp XT q) (hdg : decode cc pc = .ok (.istore k, 2)) (hK : ∀ lv' st' T', K lv' st' T' = some q → x_mo T' q.2 ∧ x_G p l e R s m args below meth c D cl C A nL n0 z0 sad ad0 Q (pc + 2) lv' st' T') (h : x_s1 XT (.istore (k : Nat)) lv st T K = some q) : x_mo T q.2 ∧ x_G p l e R s m args below meth c D cl C A nL n0 z0 sad ad0 Q pc lv st T := by
  obtain ⟨hx, hb, hml, hown, hts, hKa, hA, hF, hG, hfr, hlo, hce, hsl, har, hXT⟩ := id hc
  simp only [x_s1] at h
  split at h
  · have hx0 := x_g_some h
    clear h
    obtain ⟨hok, h⟩ := hx0
    · simp only [Bool.and_eq_true] at hok
      have hlt := Nat.blt_eq.mp hok.2
      have g := hK _ _ _ h
      refine ⟨g.1, fun ad H locs cells slots ls e1 hP hD hS hl c1 c2 => ?_⟩
      obtain ⟨lst, h1, h2, h3⟩ := hl
      refine lv_istore hx hb hdg h1 (by omega) rfl (fun ls' hl' => g.2 ad H locs cells slots ls' e1 hP hD hS (x_ls_set (ls := ls) hl' h2 h3 hok.1) c1 c2)
  · cases h
set_option maxHeartbeats 1000000 in
theorem x_o_istore_n {k : Fin 4} (hc : x_cx p R s m args meth c cc D cl C A nL n0 z0 sad own Ts F Gp XT q) (hdg : decode cc pc = .ok (.istore_n k, 1)) (hK : ∀ lv' st' T', K lv' st' T' = some q → x_mo T' q.2 ∧ x_G p l e R s m args below meth c D cl C A nL n0 z0 sad ad0 Q (pc + 1) lv' st' T') (h : x_s1 XT (.istore (k : Nat)) lv st T K = some q) : x_mo T q.2 ∧ x_G p l e R s m args below meth c D cl C A nL n0 z0 sad ad0 Q pc lv st T := by
  obtain ⟨hx, hb, hml, hown, hts, hKa, hA, hF, hG, hfr, hlo, hce, hsl, har, hXT⟩ := id hc
  simp only [x_s1] at h
  split at h
  · have hx0 := x_g_some h
    clear h
    obtain ⟨hok, h⟩ := hx0
    · simp only [Bool.and_eq_true] at hok
      have hlt := Nat.blt_eq.mp hok.2
      have g := hK _ _ _ h
      refine ⟨g.1, fun ad H locs cells slots ls e1 hP hD hS hl c1 c2 => ?_⟩
      obtain ⟨lst, h1, h2, h3⟩ := hl
      refine lv_istore_n hx hb hdg rfl h1 (by omega) rfl (fun ls' hl' => g.2 ad H locs cells slots ls' e1 hP hD hS (x_ls_set (ls := ls) hl' h2 h3 hok.1) c1 c2)
  · cases h
set_option maxHeartbeats 1000000 in
theorem x_o_astore {k : Nat} (hc : x_cx p R s m args meth c cc D cl C A nL n0 z0 sad own Ts F Gp XT q) (hdg : decode cc pc = .ok (.astore k, 2)) (hK : ∀ lv' st' T', K lv' st' T' = some q → x_mo T' q.2 ∧ x_G p l e R s m args below meth c D cl C A nL n0 z0 sad ad0 Q (pc + 2) lv' st' T') (h : x_s1 XT (.astore (k : Nat)) lv st T K = some q) : x_mo T q.2 ∧ x_G p l e R s m args below meth c D cl C A nL n0 z0 sad ad0 Q pc lv st T := by
  obtain ⟨hx, hb, hml, hown, hts, hKa, hA, hF, hG, hfr, hlo, hce, hsl, har, hXT⟩ := id hc
  simp only [x_s1] at h
  split at h
  · have hx0 := x_g_some h
    clear h
    obtain ⟨hok, h⟩ := hx0
    · simp only [Bool.and_eq_true] at hok
      have hlt := Nat.blt_eq.mp hok.2
      have g := hK _ _ _ h
      refine ⟨g.1, fun ad H locs cells slots ls e1 hP hD hS hl c1 c2 => ?_⟩
      obtain ⟨lst, h1, h2, h3⟩ := hl
      refine lv_astore hx hb hdg h1 (by omega) rfl (fun ls' hl' => g.2 ad H locs cells slots ls' e1 hP hD hS (x_ls_set (ls := ls) hl' h2 h3 hok.1) c1 c2)
  · cases h
set_option maxHeartbeats 1000000 in
theorem x_o_astore_n {k : Fin 4} (hc : x_cx p R s m args meth c cc D cl C A nL n0 z0 sad own Ts F Gp XT q) (hdg : decode cc pc = .ok (.astore_n k, 1)) (hK : ∀ lv' st' T', K lv' st' T' = some q → x_mo T' q.2 ∧ x_G p l e R s m args below meth c D cl C A nL n0 z0 sad ad0 Q (pc + 1) lv' st' T') (h : x_s1 XT (.astore (k : Nat)) lv st T K = some q) : x_mo T q.2 ∧ x_G p l e R s m args below meth c D cl C A nL n0 z0 sad ad0 Q pc lv st T := by
  obtain ⟨hx, hb, hml, hown, hts, hKa, hA, hF, hG, hfr, hlo, hce, hsl, har, hXT⟩ := id hc
  simp only [x_s1] at h
  split at h
  · have hx0 := x_g_some h
    clear h
    obtain ⟨hok, h⟩ := hx0
    · simp only [Bool.and_eq_true] at hok
      have hlt := Nat.blt_eq.mp hok.2
      have g := hK _ _ _ h
      refine ⟨g.1, fun ad H locs cells slots ls e1 hP hD hS hl c1 c2 => ?_⟩
      obtain ⟨lst, h1, h2, h3⟩ := hl
      refine lv_astore_n hx hb hdg rfl h1 (by omega) rfl (fun ls' hl' => g.2 ad H locs cells slots ls' e1 hP hD hS (x_ls_set (ls := ls) hl' h2 h3 hok.1) c1 c2)
  · cases h
theorem x_ls_setL {ad : Nat → Nat} {ls ls' : Array Slot} {lst : List (Nat × Value)} {i : Nat} {v : Int64} (h1 : lv_has ls' nL ((i, .long v) :: lst.filter (fun q => !(q.1 == i) && (!(q.1 == i + 1) && !(q.1 + 1 == i && q.2.category == 2))))) (h2 : lv.length = nL) (h3 : ∀ (j : Nat) (v : Value), lv[j]? = some (some v) → (j, x_val ad sad v) ∈ lst) (hok : x_okp lv i = true) (hlt : i + 1 < lv.length) : x_ls ad sad ls' nL ((lv.set i (some (.long v))).set (i + 1) none) := by
  refine ⟨_, h1, by rw [List.length_set, List.length_set]; exact h2, fun j v' hj => ?_⟩
  by_cases hj2 : j = i + 1
  · subst hj2
    rw [List.getElem?_set_self (by rw [List.length_set]; exact hlt)] at hj
    cases hj
  rw [List.getElem?_set_ne (Ne.symm hj2)] at hj
  by_cases hji : j = i
  · subst hji
    rw [List.getElem?_set_self (by omega)] at hj
    cases hj
    exact List.mem_cons_self
  · rw [List.getElem?_set_ne (Ne.symm hji)] at hj
    refine List.mem_cons_of_mem _ (List.mem_filter.mpr ⟨h3 j v' hj, ?_⟩)
    have hc : ¬ (j + 1 = i ∧ (x_val ad sad v').category = 2) := by
      rintro ⟨rfl, hcat⟩
      simp only [x_okp] at hok
      rw [hj] at hok
      cases v' <;> first | (simp [x_val, Value.category] at hcat; done) | simp_all [x_val, Value.category]
    simp only [Bool.and_eq_true, Bool.not_eq_true', beq_eq_false_iff_ne, ne_eq, Bool.and_eq_false_iff]
    refine ⟨hji, hj2, ?_⟩
    by_cases hj1 : j + 1 = i
    · exact Or.inr (fun h => hc ⟨hj1, h⟩)
    · exact Or.inl hj1
set_option maxHeartbeats 1000000 in
theorem x_o_lstore {k : Nat} (hc : x_cx p R s m args meth c cc D cl C A nL n0 z0 sad own Ts F Gp XT q) (hdg : decode cc pc = .ok (.lstore k, 2)) (hK : ∀ lv' st' T', K lv' st' T' = some q → x_mo T' q.2 ∧ x_G p l e R s m args below meth c D cl C A nL n0 z0 sad ad0 Q (pc + 2) lv' st' T') (h : x_s1 XT (.lstore (k : Nat)) lv st T K = some q) : x_mo T q.2 ∧ x_G p l e R s m args below meth c D cl C A nL n0 z0 sad ad0 Q pc lv st T := by
  obtain ⟨hx, hb, hml, hown, hts, hKa, hA, hF, hG, hfr, hlo, hce, hsl, har, hXT⟩ := id hc
  simp only [x_s1] at h
  split at h
  · have hx0 := x_g_some h
    clear h
    obtain ⟨hok, h⟩ := hx0
    · simp only [Bool.and_eq_true] at hok
      have hlt := Nat.blt_eq.mp hok.2
      have g := hK _ _ _ h
      refine ⟨g.1, fun ad H locs cells slots ls e1 hP hD hS hl c1 c2 => ?_⟩
      obtain ⟨lst, h1, h2, h3⟩ := hl
      refine lv_lstore hx hb hdg h1 (by omega) rfl (fun ls' hl' => g.2 ad H locs cells slots ls' e1 hP hD hS (x_ls_setL (ls := ls) hl' h2 h3 hok.1 hlt) c1 c2)
  · cases h
set_option maxHeartbeats 1000000 in
theorem x_o_lstore_n {k : Fin 4} (hc : x_cx p R s m args meth c cc D cl C A nL n0 z0 sad own Ts F Gp XT q) (hdg : decode cc pc = .ok (.lstore_n k, 1)) (hK : ∀ lv' st' T', K lv' st' T' = some q → x_mo T' q.2 ∧ x_G p l e R s m args below meth c D cl C A nL n0 z0 sad ad0 Q (pc + 1) lv' st' T') (h : x_s1 XT (.lstore (k : Nat)) lv st T K = some q) : x_mo T q.2 ∧ x_G p l e R s m args below meth c D cl C A nL n0 z0 sad ad0 Q pc lv st T := by
  obtain ⟨hx, hb, hml, hown, hts, hKa, hA, hF, hG, hfr, hlo, hce, hsl, har, hXT⟩ := id hc
  simp only [x_s1] at h
  split at h
  · have hx0 := x_g_some h
    clear h
    obtain ⟨hok, h⟩ := hx0
    · simp only [Bool.and_eq_true] at hok
      have hlt := Nat.blt_eq.mp hok.2
      have g := hK _ _ _ h
      refine ⟨g.1, fun ad H locs cells slots ls e1 hP hD hS hl c1 c2 => ?_⟩
      obtain ⟨lst, h1, h2, h3⟩ := hl
      refine lv_lstore_n hx hb hdg rfl h1 (by omega) rfl (fun ls' hl' => g.2 ad H locs cells slots ls' e1 hP hD hS (x_ls_setL (ls := ls) hl' h2 h3 hok.1 hlt) c1 c2)
  · cases h
set_option maxHeartbeats 1000000 in
theorem x_o_iinc {k : Nat} {n : Int} (hc : x_cx p R s m args meth c cc D cl C A nL n0 z0 sad own Ts F Gp XT q) (hdg : decode cc pc = .ok (.iinc k n, 3)) (hK : ∀ lv' st' T', K lv' st' T' = some q → x_mo T' q.2 ∧ x_G p l e R s m args below meth c D cl C A nL n0 z0 sad ad0 Q (pc + 3) lv' st' T') (h : x_s1 XT (.iinc k n) lv st T K = some q) : x_mo T q.2 ∧ x_G p l e R s m args below meth c D cl C A nL n0 z0 sad ad0 Q pc lv st T := by
  obtain ⟨hx, hb, hml, hown, hts, hKa, hA, hF, hG, hfr, hlo, hce, hsl, har, hXT⟩ := id hc
  simp only [x_s1] at h
  split at h
  · rename_i hj
    have hx0 := x_g_some h
    clear h
    obtain ⟨hok, h⟩ := hx0
    · have g := hK _ _ _ h
      refine ⟨g.1, fun ad H locs cells slots ls e1 hP hD hS hl c1 c2 => ?_⟩
      obtain ⟨lst, h1, h2, h3⟩ := hl
      obtain ⟨kk, hkk⟩ := List.getElem?_of_mem (h3 _ _ hj)
      have hlt := (List.getElem?_eq_some_iff.mp hj).1
      refine lv_iinc hx hb hdg h1 hkk rfl (by omega) rfl (fun ls' hl' => g.2 ad H locs cells slots ls' e1 hP hD hS (x_ls_set (ls := ls) hl' h2 h3 hok) c1 c2)
  · cases h
set_option maxHeartbeats 1000000 in
theorem x_o_dup  (hc : x_cx p R s m args meth c cc D cl C A nL n0 z0 sad own Ts F Gp XT q) (hdg : decode cc pc = .ok (.dup, 1)) (hK : ∀ lv' st' T', K lv' st' T' = some q → x_mo T' q.2 ∧ x_G p l e R s m args below meth c D cl C A nL n0 z0 sad ad0 Q (pc + 1) lv' st' T') (h : x_s1 XT (.dup) lv st T K = some q) : x_mo T q.2 ∧ x_G p l e R s m args below meth c D cl C A nL n0 z0 sad ad0 Q pc lv st T := by
  obtain ⟨hx, hb, hml, hown, hts, hKa, hA, hF, hG, hfr, hlo, hce, hsl, har, hXT⟩ := id hc
  simp only [x_s1] at h
  split at h
  · exact x_go (hK _ _ _ h) (fun ad H locs cells slots ls hP hD hS hl g => lv_dup hx hb hdg rfl g)
  · exact x_go (hK _ _ _ h) (fun ad H locs cells slots ls hP hD hS hl g => lv_dup hx hb hdg rfl g)
  · cases h
set_option maxHeartbeats 1000000 in
theorem x_o_dup2  (hc : x_cx p R s m args meth c cc D cl C A nL n0 z0 sad own Ts F Gp XT q) (hdg : decode cc pc = .ok (.dup2, 1)) (hK : ∀ lv' st' T', K lv' st' T' = some q → x_mo T' q.2 ∧ x_G p l e R s m args below meth c D cl C A nL n0 z0 sad ad0 Q (pc + 1) lv' st' T') (h : x_s1 XT (.dup2) lv st T K = some q) : x_mo T q.2 ∧ x_G p l e R s m args below meth c D cl C A nL n0 z0 sad ad0 Q pc lv st T := by
  obtain ⟨hx, hb, hml, hown, hts, hKa, hA, hF, hG, hfr, hlo, hce, hsl, har, hXT⟩ := id hc
  simp only [x_s1] at h
  split at h
  · exact x_go (hK _ _ _ h) (fun ad H locs cells slots ls hP hD hS hl g => lv_dup2_11 hx hb hdg rfl rfl g)
  · cases h
end X5
