section X10
variable {p : Program} {l : Launch} {e : Env} {R : Room} {s : State} {m : MethodId} {args : Array Value} {below : List Frame} {meth : Method} {c : Code} {Q : State → Prop} {cc : ByteArray} {D : va_G} {cl : List vw_C} {C : FieldType → ClassId} {A : Nat → Prop} {nL n0 z0 : Nat} {sad ad0 : Nat → Nat} {own : String} {Ts : List Cond} {F Gp : Nat → Option Instr} {pc len : Nat} {lv lv' : x_L} {st st' : List Value} {T T' : x_T} {q : Option Value × x_T} {K : x_L → List Value → x_T → x_Z} {raw res : Instr} {XT : x_Xt} {E : x_E} {O : Nat → List Value → x_T → x_Z} {B : Nat → x_L → x_T → x_Z} {tab : x_R} {X : x_X} {M : x_M} {adV : Nat → Nat} {d j : Nat} {ret : Option FieldType} {Ts0 : List Cond}
theorem x_tsw {pcs : Nat → Nat} {offs offs' : List Int} {lo hi dd dd' : Int} {x : Int32} (h1 : (pc : Int) + dd' = ((pcs dd.toNat : Nat) : Int)) (h2 : hi + 1 = lo + (offs.length : Int)) (h3 : offs'.map (fun o => (pc : Int) + o) = offs.map (fun t => ((pcs t.toNat : Nat) : Int))) : (x.toInt < lo ∨ hi < x.toInt) ∧ x_pick lo offs dd x = dd ∨ ¬ x.toInt < lo ∧ ¬ hi < x.toInt ∧ ∃ off, offs'[(x.toInt - lo).toNat]? = some off ∧ (pc : Int) + off = ((pcs (x_pick lo offs dd x).toNat : Nat) : Int) := by
  have hlen : offs'.length = offs.length := by simpa using congrArg List.length h3
  by_cases ha : x.toInt < lo
  · exact Or.inl ⟨Or.inl ha, if_pos ha⟩
  · by_cases hb : hi < x.toInt
    · refine Or.inl ⟨Or.inr hb, ?_⟩
      unfold x_pick
      rw [if_neg ha, List.getElem?_eq_none (by omega)]
      rfl
    · refine Or.inr ⟨ha, hb, ?_⟩
      have hi2 : (x.toInt - lo).toNat < offs'.length := by omega
      have h4 := congrArg (fun l => l[(x.toInt - lo).toNat]?) h3
      simp only [List.getElem?_map] at h4
      rw [List.getElem?_eq_getElem hi2, List.getElem?_eq_getElem (by omega : (x.toInt - lo).toNat < offs.length)] at h4
      simp only [Option.map_some, Option.some.injEq] at h4
      refine ⟨_, List.getElem?_eq_getElem hi2, ?_⟩
      unfold x_pick
      rw [if_neg ha, List.getElem?_eq_getElem (by omega : (x.toInt - lo).toNat < offs.length)]
      exact h4
theorem x_lsw {pcs : Nat → Nat} {dd dd' : Int} {x : Int} (h1 : (pc : Int) + dd' = ((pcs dd.toNat : Nat) : Int)) : ∀ (ps ps' : List (Int × Int)), ps'.map (fun q => (q.1, (pc : Int) + q.2)) = ps.map (fun q => (q.1, ((pcs q.2.toNat : Nat) : Int))) → (pc : Int) + Op.lookupswitch.offset ps' dd' x = ((pcs (Op.lookupswitch.offset ps dd x).toNat : Nat) : Int)
  | [], [], _ => by rw [Op.lookupswitch.offset_nil, Op.lookupswitch.offset_nil]; exact h1
  | [], _ :: _, h => by simp at h
  | _ :: _, [], h => by simp at h
  | (a, o) :: ps, (a', o') :: ps', h => by
    simp only [List.map_cons, List.cons.injEq, Prod.mk.injEq] at h
    obtain ⟨⟨rfl, h2⟩, h3⟩ := h
    rw [Op.lookupswitch.offset_cons, Op.lookupswitch.offset_cons]
    split
    · exact h2
    · exact x_lsw h1 ps ps' h3
/-- what a method's walk needs beside x_cx -/
def x_c2 (R : Room) (s : State) (meth : Method) (cc : ByteArray) (cl : List vw_C) (A : Nat → Prop) (sad adV : Nat → Nat) (own : String) (Ts Ts0 : List Cond) (F Gp : Nat → Option Instr) (E : x_E) (X : x_X) (M : x_M) (d : Nat) (ret : Option FieldType) (tab : x_R) : Prop :=
  x_tok cc F Gp ret tab ∧ meth.sig.returnType = ret ∧ meth.locks = false ∧ (∀ ix i, F ix = some i → x_l2 Ts E M X own cl ix i) ∧ x_xs X sad adV A s ∧ (∀ μ, x_mk Ts E M μ → GoodIn Ts (x_ws Ts0 M μ)) ∧ d + 1 ≤ R.frames ∧ 100 * d + 100 ≤ R.locals
set_option maxHeartbeats 8000000 in
theorem x_ev_ok (hc : x_cx p R s m args meth c cc D cl C A nL n0 z0 sad own Ts F Gp XT q) (h2 : x_c2 R s meth cc cl A sad adV own Ts Ts0 F Gp E X M d ret tab) (hO : ∀ μ vs T q', O μ vs T = some q' → x_C l cl X Ts0 M d μ vs T q') (hB : ∀ j lv T, B j lv T = some q → x_mo T q.2 ∧ x_G p l e R s m args below meth c D cl C A nL n0 z0 sad ad0 (x_Q below args s D cl C A ad0 n0 z0 q) (x_pc tab j) lv [] T) : ∀ (k j : Nat) (lv : x_L) (st : List Value) (T : x_T), x_ev E XT O B (x_cd tab) k ((x_cd tab).drop j) lv st T = some q → x_mo T q.2 ∧ x_G p l e R s m args below meth c D cl C A nL n0 z0 sad ad0 (x_Q below args s D cl C A ad0 n0 z0 q) (x_pc tab j) lv st T := by
  obtain ⟨hx, hb, hml, hown, hts, hKa, hA, hF, hG, hfr, hlo, hce, hsl, har, hXT⟩ := id hc
  obtain ⟨htab, hret, hlk, hF2, hxs, hGI, hR1, hR2⟩ := id h2
  intro k
  induction k with
  | zero => intro j lv st T h; simp [x_ev] at h
  | succ k ih =>
    intro j lv st T h
    cases hcd : (x_cd tab).drop j with
    | nil => rw [hcd] at h; simp [x_ev] at h
    | cons i rest =>
      rw [hcd] at h
      obtain ⟨pc, raw, len, ht, hrest, hpc⟩ := x_cd_at hcd
      obtain ⟨hdg, hrv, hnx⟩ := htab j pc raw len i ht
      rw [hpc]
      subst hrest
      have next : ∀ (lv : x_L) (st : List Value) (T : x_T), x_ev E XT O B (x_cd tab) k ((x_cd tab).drop (j + 1)) lv st T = some q → x_mo T q.2 ∧ x_G p l e R s m args below meth c D cl C A nL n0 z0 sad ad0 (x_Q below args s D cl C A ad0 n0 z0 q) (pc + len) lv st T := by
        intro lv st T h
        have hlt : j + 1 < tab.length := by
          rcases Nat.lt_or_ge (j + 1) tab.length with h1 | h1
          · exact h1
          · rw [List.drop_eq_nil_of_le (by simpa [x_cd] using h1)] at h
            cases k <;> simp [x_ev] at h
        have := ih (j + 1) lv st T h
        rwa [hnx hlt] at this
      have plain : x_rs F Gp raw len i = true → x_s1 XT i lv st T (fun lv st T => x_ev E XT O B (x_cd tab) k ((x_cd tab).drop (j + 1)) lv st T) = some q → x_mo T q.2 ∧ x_G p l e R s m args below meth c D cl C A nL n0 z0 sad ad0 (x_Q below args s D cl C A ad0 n0 z0 q) pc lv st T := by
        intro hrs h
        exact x_s1_ok hc hdg hrs (fun lv' st' T' h' => next lv' st' T' h') h
      cases i with
      | goto t =>
        simp only [x_ev] at h
        simp only [x_rv] at hrv
        split at hrv
        · simp only [Bool.and_eq_true, beq_iff_eq, decide_eq_true_eq] at hrv
          obtain ⟨rfl, ht1⟩ := hrv
          exact x_jmp (ih _ lv st T h) (fun ad H locs cells slots ls g => lv_goto hx hb hdg ht1 g)
        · cases hrv
      | jsr_w t =>
        simp only [x_ev] at h
        simp only [x_rv] at hrv
        split at hrv
        · simp only [Bool.and_eq_true, beq_iff_eq, decide_eq_true_eq] at hrv
          obtain ⟨rfl, ht1⟩ := hrv
          split at h
          · exact x_jmp (hB _ lv T h) (fun ad H locs cells slots ls g => lv_goto hx hb hdg ht1 g)
          · cases h
        · cases hrv
      | ifCond cd t =>
        simp only [x_ev] at h
        simp only [x_rv] at hrv
        split at hrv
        · simp only [Bool.and_eq_true, beq_iff_eq, decide_eq_true_eq] at hrv
          obtain ⟨⟨rfl, rfl⟩, ht1⟩ := hrv
          split at h
          · refine x_o_ifc hc hdg ht1 (fun hh => ?_) (fun hh => ?_)
            · rw [if_pos hh] at h
              cases t with
              | ofNat t => exact ih _ _ _ _ h
              | negSucc t =>
                simp only at h
                split at h
                · exact hB _ _ _ h
                · cases h
            · rw [if_neg (by rw [hh]; decide)] at h; exact next _ _ _ h
          · cases h
        · cases hrv
      | if_icmp cd t =>
        simp only [x_ev] at h
        simp only [x_rv] at hrv
        split at hrv
        · simp only [Bool.and_eq_true, beq_iff_eq, decide_eq_true_eq] at hrv
          obtain ⟨⟨rfl, rfl⟩, ht1⟩ := hrv
          split at h
          · refine x_o_icm hc hdg ht1 (fun hh => ?_) (fun hh => ?_)
            · rw [if_pos hh] at h
              cases t with
              | ofNat t => exact ih _ _ _ _ h
              | negSucc t =>
                simp only at h
                split at h
                · exact hB _ _ _ h
                · cases h
            · rw [if_neg (by rw [hh]; decide)] at h; exact next _ _ _ h
          · cases h
        · cases hrv
      | tableswitch dd lo hi offs =>
        simp only [x_ev] at h
        simp only [x_rv] at hrv
        split at hrv
        · simp only [Bool.and_eq_true, beq_iff_eq, decide_eq_true_eq] at hrv
          obtain ⟨⟨⟨rfl, t1⟩, t2⟩, t3⟩ := hrv
          split at h
          · rename_i x st2
            rcases x_tsw (x := x) t1 t2 t3 with ⟨ho, hp⟩ | ⟨ha, hb2, off, ho, hp⟩
            · rw [hp] at h
              exact x_jmp (ih _ lv st2 T h) (fun ad H locs cells slots ls g => lv_tableOut hx hb hdg ho t1 g)
            · exact x_jmp (ih _ lv st2 T h) (fun ad H locs cells slots ls g => lv_tableIn hx hb hdg ha hb2 (by rw [← Array.getElem?_toList]; exact ho) hp g)
          · cases h
        · cases hrv
      | lookupswitch dd ps =>
        simp only [x_ev] at h
        simp only [x_rv] at hrv
        split at hrv
        · simp only [Bool.and_eq_true, beq_iff_eq, decide_eq_true_eq] at hrv
          obtain ⟨⟨t1, t2⟩, t3⟩ := hrv
          split at h
          · rename_i x st2
            exact x_jmp (ih _ lv st2 T h) (fun ad H locs cells slots ls g => lv_lookup hx hb hdg t3 rfl (x_lsw t1 _ _ t2) g)
          · cases h
        · cases hrv
      | return_ =>
        simp only [x_ev] at h
        simp only [x_rv, Bool.and_eq_true, beq_iff_eq, decide_eq_true_eq] at hrv
        obtain ⟨⟨rfl, rfl⟩, hr⟩ := hrv
        split at h
        · cases h
          exact x_o_vret hc (hret.trans hr) hlk hdg
        · cases h
      | ireturn =>
        simp only [x_ev] at h
        simp only [x_rv, Bool.and_eq_true, beq_iff_eq, decide_eq_true_eq] at hrv
        obtain ⟨⟨rfl, rfl⟩, hr⟩ := hrv
        split at h
        · cases h
          exact x_o_iret hc (hret.trans hr) hlk hdg
        · cases h
      | areturn =>
        simp only [x_ev] at h
        simp only [x_rv, Bool.and_eq_true, beq_iff_eq, decide_eq_true_eq] at hrv
        obtain ⟨⟨rfl, rfl⟩, hr⟩ := hrv
        split at h
        · have hx0 := x_g_some h
          clear h
          obtain ⟨hv, h⟩ := hx0
          have hv := of_decide_eq_true hv
          cases h
          exact x_o_zret hc (hret.trans hr) hlk (by rcases hv with rfl | rfl <;> decide) hdg
        · cases h
      | lreturn =>
        simp only [x_ev] at h
        simp only [x_rv, Bool.and_eq_true, beq_iff_eq, decide_eq_true_eq] at hrv
        obtain ⟨⟨rfl, rfl⟩, hr⟩ := hrv
        split at h
        · cases h
          exact x_o_lret hc (hret.trans hr) hlk hdg
        · cases h
      | new ci =>
        simp only [x_ev] at h
        simp only [x_rv] at hrv
        split at hrv
        · simp only [Bool.and_eq_true, beq_iff_eq, decide_eq_true_eq] at hrv
          obtain ⟨rfl, hv⟩ := hrv
          have hx0 := x_g_some h
          clear h
          obtain ⟨hok, h⟩ := hx0
          simp only [Bool.and_eq_true] at hok
          exact x_o_new hc (hF2 _ _ hv) hdg hok.1.1 hok.1.2 hok.2 (next _ _ _ h)
        · cases hrv
      | invokevirtual μ =>
        simp only [x_ev] at h
        simp only [x_rv] at hrv
        split at hrv
        · simp only [Bool.and_eq_true, beq_iff_eq, decide_eq_true_eq] at hrv
          obtain ⟨rfl, hv⟩ := hrv
          split at h
          · rename_i b r hst
            split at h
            · rename_i o hsh
              obtain ⟨ci, fs⟩ := o
              have hx0 := x_g_some h
              clear h
              obtain ⟨hok, h⟩ := hx0
              simp only [Bool.and_eq_true] at hok
              have hx1 := x_bd_some h
              clear h
              obtain ⟨v, T1, hO1, h⟩ := hx1
              have hC := hO _ _ _ _ hO1
              have hl2 := hF2 _ _ hv
              have hlen : (E.2.1 μ).1 ≤ st.length := by
                rcases Nat.lt_or_ge st.length (E.2.1 μ).1 with h1 | h1
                · rw [List.drop_eq_nil_of_le (by omega)] at hst; cases hst
                · exact h1
              have hste : st = ((st.take (E.2.1 μ).1).reverse).reverse ++ .ref b :: r := by rw [List.reverse_reverse, ← hst, List.take_append_drop]
              rw [hste]
              exact x_o_callV hc hl2 hxs (hGI _ hl2.1) hdg hC (by simp; omega) hsh (Nat.eq_of_beq_eq_true hok.1) (Nat.le_of_ble_eq_true hok.2.1) hok.2.2.1 hok.2.2.2 hR1 hR2 (next _ _ _ h)
            · cases h
          · cases h
        · cases hrv
      | checkcast μ =>
        simp only [x_ev] at h
        simp only [x_rv] at hrv
        split at hrv
        · simp only [Bool.and_eq_true, beq_iff_eq, decide_eq_true_eq] at hrv
          obtain ⟨rfl, hv⟩ := hrv
          split at h
          · rename_i b r hst
            have hx0 := x_g_some h
            clear h
            obtain ⟨hok, h⟩ := hx0
            simp only [Bool.and_eq_true] at hok
            have hx1 := x_bd_some h
            clear h
            obtain ⟨v, T1, hO1, h⟩ := hx1
            have hC := hO _ _ _ _ hO1
            have hl2 := hF2 _ _ hv
            have hlen : (E.2.1 μ).1 ≤ st.length := by
              rcases Nat.lt_or_ge st.length (E.2.1 μ).1 with h1 | h1
              · rw [List.drop_eq_nil_of_le (by omega)] at hst; cases hst
              · exact h1
            have hste : st = ((st.take (E.2.1 μ).1).reverse).reverse ++ .retAddr b :: r := by rw [List.reverse_reverse, ← hst, List.take_append_drop]
            rw [hste]
            exact x_o_callT hc hl2 hxs (hGI _ hl2.1) hdg hC (by simp; omega) (Nat.blt_eq.mp hok.1) (Nat.le_of_ble_eq_true hok.2.1) hok.2.2.1 hok.2.2.2 hR1 hR2 (next _ _ _ h)
          · cases h
        · cases hrv
      | invokespecial μ =>
        simp only [x_ev] at h
        simp only [x_rv] at hrv
        split at hrv
        · simp only [Bool.and_eq_true, beq_iff_eq, decide_eq_true_eq] at hrv
          obtain ⟨rfl, hv⟩ := hrv
          split at h
          · rename_i b r hst
            have hx0 := x_g_some h
            clear h
            obtain ⟨hok, h⟩ := hx0
            simp only [Bool.and_eq_true] at hok
            have hx1 := x_bd_some h
            clear h
            obtain ⟨v, T1, hO1, h⟩ := hx1
            have hC := hO _ _ _ _ hO1
            have hl2 := hF2 _ _ hv
            have hlen : (E.2.1 μ).1 ≤ st.length := by
              rcases Nat.lt_or_ge st.length (E.2.1 μ).1 with h1 | h1
              · rw [List.drop_eq_nil_of_le (by omega)] at hst; cases hst
              · exact h1
            have hste : st = ((st.take (E.2.1 μ).1).reverse).reverse ++ .ref b :: r := by rw [List.reverse_reverse, ← hst, List.take_append_drop]
            rw [hste]
            exact x_o_callI hc hl2 hxs (hGI _ hl2.1) hdg hC (by simp; omega) (Nat.le_of_ble_eq_true hok.1) hok.2.1 hok.2.2 hR1 hR2 (next _ _ _ h)
          · cases h
        · cases hrv
      | invokestatic μ =>
        simp only [x_ev] at h
        simp only [x_rv] at hrv
        split at hrv
        · simp only [Bool.and_eq_true, beq_iff_eq, decide_eq_true_eq] at hrv
          obtain ⟨rfl, hv⟩ := hrv
          have hx0 := x_g_some h
          clear h
          obtain ⟨hok, h⟩ := hx0
          simp only [Bool.and_eq_true] at hok
          have hx1 := x_bd_some h
          clear h
          obtain ⟨v, T1, hO1, h⟩ := hx1
          have hC := hO _ _ _ _ hO1
          have hl2 := hF2 _ _ hv
          have hste : st = ((st.take (E.2.1 μ).1).reverse).reverse ++ st.drop (E.2.1 μ).1 := by rw [List.reverse_reverse, List.take_append_drop]
          have hgo := x_o_callS (b := 0) (r := st.drop (E.2.1 μ).1) hc hl2 hxs (hGI _ hl2.1) hdg hC (by have := Nat.le_of_ble_eq_true hok.2.1; simp; omega) (Nat.le_of_ble_eq_true hok.1) hok.2.2.1 hok.2.2.2 hR1 hR2 (next _ _ _ h)
          rwa [← hste] at hgo
        · cases hrv
      | _ => exact plain hrv h
/-- all that is known of the methods: F and Gp of a method's class, its table -/
def x_ok (cl : List vw_C) (E : x_E) (X : x_X) (Ts0 : List Cond) (M : x_M) (F Gp : Nat → Nat → Option Instr) (tb : Nat → x_R) (μ : Nat) : Prop :=
  plainName (M μ).1.cls = true ∧ x_tok (M μ).2.1 (F μ) (Gp μ) (M μ).2.2.2 (tb μ) ∧ E.2.2.2 μ = x_cd (tb μ) ∧ E.2.2.1 μ = (M μ).2.2.1 ∧ (x_pc (tb μ) 0 = 0)
    ∧ (∀ ix i, F μ ix = some i → x_l2 Ts0 E M X (M μ).1.cls cl ix i) ∧ (∀ ix i, F μ ix = some i → ∀ (sad : Nat → Nat) (s : State), (∀ r ∈ X.1, vk_R r.1 r.2.1 r.2.2.1 (sad r.2.2.2) s) → x_lk Ts0 (M μ).1.cls cl sad s ix i)
    ∧ (∀ ix i, Gp μ ix = some i → ∀ (s : State) (meth : Method), meth.name = (M μ).1.name → x_pk Ts0 (M μ).1.cls cl s meth ix i)
end X10
