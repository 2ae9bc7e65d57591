section X7
variable {p : Program} {l : Launch} {e : Env} {R : Room} {s : State} {m : MethodId} {args : Array Value} {below : List Frame} {meth : Method} {c : Code} {Q : State → Prop} {cc : ByteArray} {D : va_G} {cl : List vw_C} {C : FieldType → ClassId} {A : Nat → Prop} {nL n0 z0 : Nat} {sad ad0 : Nat → Nat} {own : String} {Ts : List Cond} {F Gp : Nat → Option Instr} {pc len : Nat} {lv lv' : x_L} {st st' : List Value} {T T' : x_T} {q : Option Value × x_T} {K : x_L → List Value → x_T → x_Z} {raw res : Instr} {XT : x_Xt}
set_option maxHeartbeats 4000000 in
theorem x_s1_ok (hc : x_cx p R s m args meth c cc D cl C A nL n0 z0 sad own Ts F Gp XT q) (hdg : decode cc pc = .ok (raw, len)) (hrs : x_rs F Gp raw len res = true) (hK : ∀ lv' st' T', K lv' st' T' = some q → x_mo T' q.2 ∧ x_G p l e R s m args below meth c D cl C A nL n0 z0 sad ad0 Q (pc + len) lv' st' T') (h : x_s1 XT res lv st T K = some q) : x_mo T q.2 ∧ x_G p l e R s m args below meth c D cl C A nL n0 z0 sad ad0 Q pc lv st T := by
  cases raw with
  | iconst v => simp only [x_rs, Bool.and_eq_true, beq_iff_eq, decide_eq_true_eq] at hrs; obtain ⟨rfl, rfl⟩ := hrs; exact x_o_iconst hc hdg hK h
  | bipush v => simp only [x_rs, Bool.and_eq_true, beq_iff_eq, decide_eq_true_eq] at hrs; obtain ⟨⟨rfl, rfl⟩, hv⟩ := hrs; exact x_o_bipush hv hc hdg hK h
  | sipush v => simp only [x_rs, Bool.and_eq_true, beq_iff_eq, decide_eq_true_eq] at hrs; obtain ⟨⟨rfl, rfl⟩, hv⟩ := hrs; exact x_o_sipush hv hc hdg hK h
  | lconst v => simp only [x_rs, Bool.and_eq_true, beq_iff_eq, decide_eq_true_eq] at hrs; obtain ⟨rfl, rfl⟩ := hrs; exact x_o_lconst hc hdg hK h
  | ldc ix =>
    simp only [x_rs, Bool.and_eq_true, beq_iff_eq, decide_eq_true_eq] at hrs
    obtain ⟨⟨rfl, hv⟩, hm⟩ := hrs
    split at hm
    · exact x_o_ldc hv hc hdg hK h
    · exact x_o_ldcS hv hc hdg hK h
    · cases hm
  | ldc_w ix =>
    simp only [x_rs, Bool.and_eq_true, beq_iff_eq, decide_eq_true_eq] at hrs
    obtain ⟨⟨rfl, hv⟩, hm⟩ := hrs
    split at hm
    · exact x_o_ldcw hv hc hdg hK h
    · cases hm
  | ldc2_w ix =>
    simp only [x_rs, Bool.and_eq_true, beq_iff_eq, decide_eq_true_eq] at hrs
    obtain ⟨⟨rfl, hv⟩, hm⟩ := hrs
    split at hm
    · exact x_o_ldc2 hv hc hdg hK h
    · cases hm
  | iload k => simp only [x_rs, Bool.and_eq_true, beq_iff_eq, decide_eq_true_eq] at hrs; obtain ⟨rfl, rfl⟩ := hrs; exact x_o_iload hc hdg hK h
  | iload_n k => simp only [x_rs, Bool.and_eq_true, beq_iff_eq, decide_eq_true_eq] at hrs; obtain ⟨rfl, rfl⟩ := hrs; exact x_o_iload_n hc hdg hK h
  | lload k => simp only [x_rs, Bool.and_eq_true, beq_iff_eq, decide_eq_true_eq] at hrs; obtain ⟨rfl, rfl⟩ := hrs; exact x_o_lload hc hdg hK h
  | lload_n k => simp only [x_rs, Bool.and_eq_true, beq_iff_eq, decide_eq_true_eq] at hrs; obtain ⟨rfl, rfl⟩ := hrs; exact x_o_lload_n hc hdg hK h
  | aload k => simp only [x_rs, Bool.and_eq_true, beq_iff_eq, decide_eq_true_eq] at hrs; obtain ⟨rfl, rfl⟩ := hrs; exact x_o_aload hc hdg hK h
  | aload_n k => simp only [x_rs, Bool.and_eq_true, beq_iff_eq, decide_eq_true_eq] at hrs; obtain ⟨rfl, rfl⟩ := hrs; exact x_o_aload_n hc hdg hK h
  | istore k => simp only [x_rs, Bool.and_eq_true, beq_iff_eq, decide_eq_true_eq] at hrs; obtain ⟨rfl, rfl⟩ := hrs; exact x_o_istore hc hdg hK h
  | istore_n k => simp only [x_rs, Bool.and_eq_true, beq_iff_eq, decide_eq_true_eq] at hrs; obtain ⟨rfl, rfl⟩ := hrs; exact x_o_istore_n hc hdg hK h
  | lstore k => simp only [x_rs, Bool.and_eq_true, beq_iff_eq, decide_eq_true_eq] at hrs; obtain ⟨rfl, rfl⟩ := hrs; exact x_o_lstore hc hdg hK h
  | lstore_n k => simp only [x_rs, Bool.and_eq_true, beq_iff_eq, decide_eq_true_eq] at hrs; obtain ⟨rfl, rfl⟩ := hrs; exact x_o_lstore_n hc hdg hK h
  | astore k => simp only [x_rs, Bool.and_eq_true, beq_iff_eq, decide_eq_true_eq] at hrs; obtain ⟨rfl, rfl⟩ := hrs; exact x_o_astore hc hdg hK h
  | astore_n k => simp only [x_rs, Bool.and_eq_true, beq_iff_eq, decide_eq_true_eq] at hrs; obtain ⟨rfl, rfl⟩ := hrs; exact x_o_astore_n hc hdg hK h
  | iinc k n => simp only [x_rs, Bool.and_eq_true, beq_iff_eq, decide_eq_true_eq] at hrs; obtain ⟨rfl, rfl⟩ := hrs; exact x_o_iinc hc hdg hK h
  | newarray ty => simp only [x_rs, Bool.and_eq_true, beq_iff_eq, decide_eq_true_eq] at hrs; obtain ⟨rfl, rfl⟩ := hrs; exact x_o_newa hc hdg hK h
  | getfield ix =>
    simp only [x_rs, Bool.and_eq_true, beq_iff_eq, decide_eq_true_eq] at hrs
    obtain ⟨⟨rfl, hv⟩, hm⟩ := hrs
    split at hm
    · exact x_o_getf hv hc hdg hK h
    · cases hm
  | putfield ix =>
    simp only [x_rs, Bool.and_eq_true, beq_iff_eq, decide_eq_true_eq] at hrs
    obtain ⟨⟨rfl, hv⟩, hm⟩ := hrs
    split at hm
    · exact x_o_putf hv hc hdg hK h
    · cases hm
  | invokespecial ix =>
    simp only [x_rs, Bool.and_eq_true, beq_iff_eq, decide_eq_true_eq] at hrs
    obtain ⟨⟨rfl, hv⟩, hm⟩ := hrs
    split at hm
    · exact x_o_pop hv hc hdg hK h
    · cases hm
  | invokestatic ix =>
    simp only [x_rs, Bool.and_eq_true, beq_iff_eq, decide_eq_true_eq] at hrs
    obtain ⟨⟨rfl, hv⟩, hm⟩ := hrs
    split at hm
    · rename_i b
      match b, hv, h with
      | 0, hv, h => exact x_o_mmax hv hc hdg hK h
      | 1, hv, h => exact x_o_mmin hv hc hdg hK h
      | 2, hv, h => exact x_o_copy hv hc hdg hK h
      | b + 3, hv, h => simp [x_s1] at h
    · cases hm
  | iadd => simp only [x_rs, Bool.and_eq_true, beq_iff_eq, decide_eq_true_eq, and_true] at hrs; obtain ⟨rfl, rfl⟩ := hrs; exact x_o_iadd hc hdg hK h
  | isub => simp only [x_rs, Bool.and_eq_true, beq_iff_eq, decide_eq_true_eq, and_true] at hrs; obtain ⟨rfl, rfl⟩ := hrs; exact x_o_isub hc hdg hK h
  | imul => simp only [x_rs, Bool.and_eq_true, beq_iff_eq, decide_eq_true_eq, and_true] at hrs; obtain ⟨rfl, rfl⟩ := hrs; exact x_o_imul hc hdg hK h
  | idiv => simp only [x_rs, Bool.and_eq_true, beq_iff_eq, decide_eq_true_eq, and_true] at hrs; obtain ⟨rfl, rfl⟩ := hrs; exact x_o_idiv hc hdg hK h
  | irem => simp only [x_rs, Bool.and_eq_true, beq_iff_eq, decide_eq_true_eq, and_true] at hrs; obtain ⟨rfl, rfl⟩ := hrs; exact x_o_irem hc hdg hK h
  | iand => simp only [x_rs, Bool.and_eq_true, beq_iff_eq, decide_eq_true_eq, and_true] at hrs; obtain ⟨rfl, rfl⟩ := hrs; exact x_o_iand hc hdg hK h
  | ior => simp only [x_rs, Bool.and_eq_true, beq_iff_eq, decide_eq_true_eq, and_true] at hrs; obtain ⟨rfl, rfl⟩ := hrs; exact x_o_ior hc hdg hK h
  | ishl => simp only [x_rs, Bool.and_eq_true, beq_iff_eq, decide_eq_true_eq, and_true] at hrs; obtain ⟨rfl, rfl⟩ := hrs; exact x_o_ishl hc hdg hK h
  | ishr => simp only [x_rs, Bool.and_eq_true, beq_iff_eq, decide_eq_true_eq, and_true] at hrs; obtain ⟨rfl, rfl⟩ := hrs; exact x_o_ishr hc hdg hK h
  | iushr => simp only [x_rs, Bool.and_eq_true, beq_iff_eq, decide_eq_true_eq, and_true] at hrs; obtain ⟨rfl, rfl⟩ := hrs; exact x_o_iushr hc hdg hK h
  | ladd => simp only [x_rs, Bool.and_eq_true, beq_iff_eq, decide_eq_true_eq, and_true] at hrs; obtain ⟨rfl, rfl⟩ := hrs; exact x_o_ladd hc hdg hK h
  | lmul => simp only [x_rs, Bool.and_eq_true, beq_iff_eq, decide_eq_true_eq, and_true] at hrs; obtain ⟨rfl, rfl⟩ := hrs; exact x_o_lmul hc hdg hK h
  | ldiv => simp only [x_rs, Bool.and_eq_true, beq_iff_eq, decide_eq_true_eq, and_true] at hrs; obtain ⟨rfl, rfl⟩ := hrs; exact x_o_ldiv hc hdg hK h
  | land => simp only [x_rs, Bool.and_eq_true, beq_iff_eq, decide_eq_true_eq, and_true] at hrs; obtain ⟨rfl, rfl⟩ := hrs; exact x_o_land hc hdg hK h
  | lor => simp only [x_rs, Bool.and_eq_true, beq_iff_eq, decide_eq_true_eq, and_true] at hrs; obtain ⟨rfl, rfl⟩ := hrs; exact x_o_lor hc hdg hK h
  | lshl => simp only [x_rs, Bool.and_eq_true, beq_iff_eq, decide_eq_true_eq, and_true] at hrs; obtain ⟨rfl, rfl⟩ := hrs; exact x_o_lshl hc hdg hK h
  | lushr => simp only [x_rs, Bool.and_eq_true, beq_iff_eq, decide_eq_true_eq, and_true] at hrs; obtain ⟨rfl, rfl⟩ := hrs; exact x_o_lushr hc hdg hK h
  | lcmp => simp only [x_rs, Bool.and_eq_true, beq_iff_eq, decide_eq_true_eq, and_true] at hrs; obtain ⟨rfl, rfl⟩ := hrs; exact x_o_lcmp hc hdg hK h
  | i2l => simp only [x_rs, Bool.and_eq_true, beq_iff_eq, decide_eq_true_eq, and_true] at hrs; obtain ⟨rfl, rfl⟩ := hrs; exact x_o_i2l hc hdg hK h
  | l2i => simp only [x_rs, Bool.and_eq_true, beq_iff_eq, decide_eq_true_eq, and_true] at hrs; obtain ⟨rfl, rfl⟩ := hrs; exact x_o_l2i hc hdg hK h
  | i2c => simp only [x_rs, Bool.and_eq_true, beq_iff_eq, decide_eq_true_eq, and_true] at hrs; obtain ⟨rfl, rfl⟩ := hrs; exact x_o_i2c hc hdg hK h
  | dup => simp only [x_rs, Bool.and_eq_true, beq_iff_eq, decide_eq_true_eq, and_true] at hrs; obtain ⟨rfl, rfl⟩ := hrs; exact x_o_dup hc hdg hK h
  | dup2 => simp only [x_rs, Bool.and_eq_true, beq_iff_eq, decide_eq_true_eq, and_true] at hrs; obtain ⟨rfl, rfl⟩ := hrs; exact x_o_dup2 hc hdg hK h
  | iaload => simp only [x_rs, Bool.and_eq_true, beq_iff_eq, decide_eq_true_eq, and_true] at hrs; obtain ⟨rfl, rfl⟩ := hrs; exact x_o_iaload hc hdg hK h
  | baload => simp only [x_rs, Bool.and_eq_true, beq_iff_eq, decide_eq_true_eq, and_true] at hrs; obtain ⟨rfl, rfl⟩ := hrs; exact x_o_baload hc hdg hK h
  | laload => simp only [x_rs, Bool.and_eq_true, beq_iff_eq, decide_eq_true_eq, and_true] at hrs; obtain ⟨rfl, rfl⟩ := hrs; exact x_o_laload hc hdg hK h
  | iastore => simp only [x_rs, Bool.and_eq_true, beq_iff_eq, decide_eq_true_eq, and_true] at hrs; obtain ⟨rfl, rfl⟩ := hrs; exact x_o_iastore hc hdg hK h
  | bastore => simp only [x_rs, Bool.and_eq_true, beq_iff_eq, decide_eq_true_eq, and_true] at hrs; obtain ⟨rfl, rfl⟩ := hrs; exact x_o_bastore hc hdg hK h
  | lastore => simp only [x_rs, Bool.and_eq_true, beq_iff_eq, decide_eq_true_eq, and_true] at hrs; obtain ⟨rfl, rfl⟩ := hrs; exact x_o_lastore hc hdg hK h
  | arraylength => simp only [x_rs, Bool.and_eq_true, beq_iff_eq, decide_eq_true_eq, and_true] at hrs; obtain ⟨rfl, rfl⟩ := hrs; exact x_o_alen hc hdg hK h
  | _ => simp [x_rs] at hrs
end X7
