/-! THE CLAIM OUT OF ONE WALK OF THE LAW'S BODY. Your part is whole_start (and what it stands on); all else here is the same for every law, but numbers. -/
def R_law : String := "CommaOrphansLaw"
def lw_P (b : Addr) (xs : List Int32) (args : Array Value) (s : State) : Prop := args = #[.ref b] ∧ s.IntsAt b xs ∧ xs.length ≤ 3072 ∧ (Jvm.Cond.and given_1 narrow_1).before args s = true
def lw_Q (_ : Array Value) (s : State) (o : Outcome) (t : State) : Prop := o = .returned (some (.int 1)) ∧ Framed s o t [] 600000 7302250
def lw_Z (below : List Frame) (a : Array Value) (s : State) : State → Prop := fun t => ∃ o, t.status = .running ∧ Ended t below o ∧ lw_Q a s o t
/-- the law's own end, with 1 on the stack, nothing written that was there before, its room as the claim has it -/
theorem lw_ret {p : Program} {l : Launch} {e : Env} {s : State} {m : MethodId} {below : List Frame} {meth : Method} {c : Code} {b : Nat} (hx : p.tables.exec = Jvm.exec) (hb : c.code = code) (hr : meth.sig.returnType = ret) (hlocks : meth.locks = false) {pc : Nat} {H : Heap} {ls : Array Slot} (hdg : decode code pc = .ok (.ireturn, 1)) : W p l e room_1 s m #[Value.ref b] below meth c H [] 600000 7302250 (lw_Z below #[Value.ref b] s) (F0 m pc ls [.int 1]) := by
  intro T hT X
  obtain ⟨fs, hret, hrun, hended, hW, hframe⟩ := X.leave (v := some (.int 1)) (hlocks := hlocks) (fun h => by rw [hr] at h; cases h)
  have hmeth' : T.vm.method? m = some meth := X.method'
  refine ⟨T.setFrames fs, ?_, .returned (some (.int 1)), hrun, hended, rfl, ⟨_, rfl⟩, hW, hframe⟩
  jvm_step X.here [X.here.top, hx, hb, hdg, hmeth', hr, ret, narrow_b1]
  (try refine ⟨rfl, ?_⟩); (try refine ⟨rfl, ?_⟩)
  first | (intro acts; rw [hret _ acts rfl rfl rfl]) | rw [hret _ _ rfl rfl rfl]
  exact Steps.refl _
/-- what holds at the law's entry: the machine, the code, the tables' words (any of lw_tbl by 'hts w (by decide +kernel)'), the script of L ints xs at the cell b, what the Statement gives of the start (any of its parts by flat_of_before) -/
def lw_At (p : Program) (s : State) (m : MethodId) (meth : Method) (c : Code) (b L : Nat) (xs : Nat → Int32) : Prop :=
  p.tables.exec = Jvm.exec ∧ c.code = code ∧ meth.sig.returnType = ret ∧ c.maxLocals = 4 ∧ s.vm.findClass R_law = some m.cls ∧ (∀ w ∈ lw_tbl, w.before #[Value.ref b] s = true) ∧ va_X b L xs s s.heap ∧ b < s.heap.size ∧ meth.locks = false ∧ (Jvm.Cond.and given_1 narrow_1).before #[Value.ref b] s = true
/-- the script: a row that is only read -/
def y_scr (L : Nat) (xs : Nat → Int32) : x_Xt := fun j => if j = 2 then some (L, xs) else none
/-- the small machine's run of the law over a script -/
noncomputable def y_run (SO : Nat → List Value → x_T → x_Z) (L : Nat) (xs : Nat → Int32) : x_Z := x_ev kE (y_scr L xs) (x_P kE SO 700 4000 60) (x_lp kE (y_scr L xs) (x_P kE SO 700 4000 60) (kE.2.2.2 87) 700 4000) (kE.2.2.2 87) 700 (kE.2.2.2 87) [some (.retAddr 2), none, none, none] [] ([], fun _ _ => 0, fun _ _ => 0)
theorem y_gp : (x_pool kPL (x_Mf kML 87).1.cls).all (fun r => (x_gp1 kCL (x_Mf kML 87).1.cls (x_Mf kML 87).1.name r.2).isNone) = true := by decide +kernel
theorem y_gn (ix : Nat) : x_Gf kCL kPL kML 87 ix = none := by
  unfold x_Gf
  split
  · rename_i i h
    unfold x_Ff at h
    have h1 := List.all_eq_true.mp y_gp _ (x_look h)
    simpa using h1
  · rfl
theorem y_facts : (x_Mf kML 87).2.1 = code ∧ (x_Mf kML 87).1.cls = R_law ∧ (x_Mf kML 87).2.2.2 = ret ∧ (x_Mf kML 87).2.2.1 = 4 := ⟨rfl, rfl, rfl, rfl⟩
set_option maxHeartbeats 4000000 in
theorem y_start {SO : Nat → List Value → x_T → x_Z} {p : Program} {e : Env} {s : State} {m : MethodId} {below : List Frame} {meth : Method} {c : Code} (l : Launch) (hSO : ∀ μ vs T q, SO μ vs T = some q → x_mo T q.2 ∧ ∀ d, 8 ≤ d → x_C l (x_cl kCL) kX kTs (x_Mf kML) (d + 1) μ vs T q) {b L : Nat} {xs : Nat → Int32} {Te : x_T} (hrun : y_run SO L xs = some (some (.int 1), Te)) (hT1 : Te.1.length ≤ 600000) (hT2 : x_z Te.1 ≤ 7302250) (C0 : lw_At p s m meth c b L xs) : W p l e room_1 s m #[Value.ref b] below meth c s.heap [] 0 0 (lw_Z below #[Value.ref b] s) (entryFrame m ([Value.ref b] : List Value).toArray 4) := by
  obtain ⟨hx, hb, hr, hml, hown, hts, hX, hbl, hlocks, hgv⟩ := id C0
  obtain ⟨D, C, hK⟩ := y_K hts
  obtain ⟨sad, adV, hs2, hxs⟩ := y_xs (b := b) hts hgv
  obtain ⟨hpl, htok, hcode, hloc, hpc0, hF2, hF1, hGp⟩ := k_ok 87 (by decide)
  obtain ⟨f1, f2, f3, f4⟩ := y_facts
  have hc : x_cx p room_1 s m #[Value.ref b] meth c code D (x_cl kCL) C (fun q => s.heap.size ≤ q) 4 0 0 sad R_law kTs (x_Ff kPL kML 87) (x_Gf kCL kPL kML 87) (y_scr L xs) (some (.int 1), Te) := by
    refine ⟨hx, hb, hml, hown, fun w hw => hts w (k_words w hw).1, hK, fun q h => h, fun ix i hi => ?_, fun ix i hi => ?_, by decide, by decide, by show Te.1.length ≤ 0 + 600000; omega, by show x_z Te.1 ≤ 0 + 7302250; omega, ?_, ?_⟩
    · rw [← f2]; exact hF1 ix i hi sad s hxs.1
    · rw [y_gn] at hi; cases hi
    · intro ty
      by_cases h1 : ty = .int
      · subst h1; exact Or.inl (List.mem_append_left _ (by simp [kTa, x_all]))
      · by_cases h2 : ty = .boolean
        · subst h2; exact Or.inl (List.mem_append_left _ (by simp [kTa, x_all]))
        · by_cases h3 : ty = .long
          · subst h3; exact Or.inl (List.mem_append_left _ (by simp [kTa, x_all]))
          · exact Or.inr ⟨h1, h2, h3⟩
    · intro j n f hj
      unfold y_scr at hj
      split at hj
      · rename_i hj2
        cases hj
        subst hj2
        rw [hs2]
        exact ⟨hX, hbl, Nat.not_le.mpr hbl⟩
      · cases hj
  have h2 : x_c2 room_1 s meth code (x_cl kCL) (fun q => s.heap.size ≤ q) sad adV R_law kTs kTs (x_Ff kPL kML 87) (x_Gf kCL kPL kML 87) kE kX (x_Mf kML) 60 ret (kTB[87]?.getD []) := by
    refine ⟨?_, hr, hlocks, fun ix i hi => ?_, hxs, fun μ' hmk w hw => ?_, by decide, by decide⟩
    · rw [← f1, ← f3]; exact htok
    · rw [← f2]; exact hF2 ix i hi
    · have hm : w ∈ kTs := by
        rcases List.mem_cons.mp hw with rfl | h
        · exact hmk.1
        · exact h
      exact ⟨hm, good_of_word (k_words w hm).2⟩
  have hO : ∀ μ vs T q', x_P kE SO 700 4000 60 μ vs T = some q' → x_C l (x_cl kCL) kX kTs (x_Mf kML) 60 μ vs T q' := fun μ vs T q' h => k_sound hSO 700 4000 60 μ vs T q' h
  have hB : ∀ (n' j : Nat) (lv : x_L) (T' : x_T), x_lp kE (y_scr L xs) (x_P kE SO 700 4000 60) (x_cd (kTB[87]?.getD [])) 700 n' j lv T' = some (some (.int 1), Te) → x_mo T' Te ∧ x_G p l e room_1 s m #[Value.ref b] below meth c D (x_cl kCL) C (fun q => s.heap.size ≤ q) 4 0 0 sad (fun _ => 0) (x_Q below #[Value.ref b] s D (x_cl kCL) C (fun q => s.heap.size ≤ q) (fun _ => 0) 0 0 (some (.int 1), Te)) (x_pc (kTB[87]?.getD []) j) lv [] T' := by
    intro n'
    induction n' with
    | zero => intro j lv T' h; simp [x_lp] at h
    | succ n' ihn =>
      intro j lv T' h
      simp only [x_lp] at h
      exact x_ev_ok hc h2 hO ihn 700 j lv [] T' h
  have hg := (x_ev_ok hc h2 hO (hB 4000) 700 0 _ [] _ (by rw [List.drop_zero]; exact hrun)).2
  rw [hpc0] at hg
  have hl := lv_entry ([.ref b]) (n := 4) (Nat.le_of_ble_eq_true rfl)
  rw [lg_entry_eq]
  have hw := hg (fun _ => 0) s.heap [] 0 0 _ (fun _ _ => rfl) (fun k q h => by simp [x_W] at h) ⟨fun i j p q h => by simp [x_W] at h, fun k q h => by simp [x_W] at h⟩ va_S.rf ⟨_, hl, rfl, fun j v hj => ?_⟩ rfl rfl
  · intro T hT X0
    obtain ⟨t, a1, b1⟩ := hw T hT X0
    refine ⟨t, a1, ?_⟩
    obtain ⟨o, g1, g2, g3, Lc, g4, g5⟩ := b1
    obtain ⟨⟨r, u, ho, ⟨hr1, -⟩, -⟩, -⟩ := g3
    subst ho; subst hr1
    obtain ⟨e1, e2, e3⟩ := g4
    exact ⟨_, g1, g2, rfl, e1, e2, e3.weaken (fun x hx hlt => absurd (g5 x hx) (Nat.not_le.mpr hlt)) (by show Te.1.length - 0 ≤ 600000; omega) (by show x_z Te.1 - 0 ≤ 7302250; omega)⟩
  · match j, hj with
    | 0, hj =>
      simp at hj
      subst hj
      simp [x_val, hs2, lv_args]
    | 1, hj => simp at hj
    | 2, hj => simp at hj
    | 3, hj => simp at hj
    | j + 4, hj => simp at hj
