section X13
variable {CL : x_CL} {X : x_X} {ML : x_ML} {PL : x_PL} {TB : List x_R} {MU : List Nat}
theorem x_l2_of {own : String} {ix : Nat} {i : Instr} (hcl : x_clk CL) (hc : x_chk MU CL X ML own ix i = true) (hw : ∀ w ∈ x_need CL X ML own ix i, w ∈ x_all MU CL X ML PL) : x_l2 (x_all MU CL X ML PL) (x_Ef CL ML TB) (x_Mf ML) X own (x_cl CL) ix i := by
  unfold x_l2
  split
  · rename_i ci
    simp only [x_chk] at hc
    split at hc
    · rename_i q hq
      obtain ⟨⟨Cn, Tn, N⟩, ty⟩ := q
      simp only [x_need, hq] at hw
      obtain ⟨h1, h2, h3⟩ := hcl _ (List.mem_of_getElem? hq)
      refine ⟨Cn, Tn, N, ty, x_cl_at hq, x_ws_in (List.mem_of_getElem? hq), h1, hw _ (by simp), hw _ (by simp), hw _ (by simp), ?_⟩
      simp only [x_Ef, hq]
      refine ⟨by simp [x_dfl], fun j hj => ?_⟩
      have hget : (x_dfl ty N)[j]? = some (x_d1 (ty j)) := by simp [x_dfl, hj]
      rw [hget]
      rcases h3 j hj with (h | h) | ⟨n, h⟩ | ⟨n, h⟩
      · simp only at h; rw [h]; exact Or.inl ⟨rfl, Or.inl rfl⟩
      · simp only at h; rw [h]; exact Or.inl ⟨rfl, Or.inr rfl⟩
      · simp only at h; rw [h]; exact Or.inr ⟨rfl, Or.inl ⟨n, rfl⟩⟩
      · simp only at h; rw [h]; exact Or.inr ⟨rfl, Or.inr ⟨n, rfl⟩⟩
    · cases hc
  · rename_i μ
    simp only [x_chk, Bool.and_eq_true] at hc
    obtain ⟨h1, h2⟩ := hc
    simp only [x_need] at hw
    refine ⟨x_mk_of h1, x_ne_of (fun w h => hw w (List.mem_append_left _ h)), hw _ (by simp), hw _ (by simp), ?_⟩
    split at h2
    · rename_i r ty hq
      obtain ⟨Cn, Tn, N⟩ := r
      simp only [decide_eq_true_eq] at h2
      exact ⟨Tn, N, by rw [← h2]; exact x_cl_at hq⟩
    · cases h2
  · rename_i μ
    simp only [x_chk] at hc
    simp only [x_need] at hw
    exact ⟨x_mk_of hc, x_ne_of (fun w h => hw w (List.mem_append_left _ h)), hw _ (by simp)⟩
  · rename_i μ
    simp only [x_chk, Bool.and_eq_true, decide_eq_true_eq] at hc
    simp only [x_need] at hw
    exact ⟨x_mk_of hc.1.1, x_ne_of (fun w h => hw w (List.mem_append_left _ h)), hw _ (by simp), hc.1.2, hc.2⟩
  · rename_i μ
    simp only [x_chk, Bool.and_eq_true, decide_eq_true_eq] at hc
    simp only [x_need] at hw
    exact ⟨x_mk_of hc.1.1, hw _ (by simp), hw _ (by simp), hw _ (by simp), hc.1.2, hc.2⟩
  · trivial
theorem x_lk_of {own : String} {ix : Nat} {i : Instr} {sad : Nat → Nat} {s : State} (hs : ∀ r ∈ X.1, vk_R r.1 r.2.1 r.2.2.1 (sad r.2.2.2) s) (hc : x_chk MU CL X ML own ix i = true) (hw : ∀ w ∈ x_need CL X ML own ix i, w ∈ x_all MU CL X ML PL) : x_lk (x_all MU CL X ML PL) own (x_cl CL) sad s ix i := by
  unfold x_lk
  split
  · exact hw _ (by simp [x_need])
  · exact hw _ (by simp [x_need])
  · rename_i j
    simp only [x_chk] at hc
    obtain ⟨r, hr, h2⟩ := List.any_eq_true.mp hc
    simp only [Bool.and_eq_true, decide_eq_true_eq] at h2
    obtain ⟨⟨h3, h4⟩, h5⟩ := h2
    have := hs r hr
    rw [h3, h4, h5] at this
    exact ⟨_, this⟩
  · rename_i ci k
    simp only [x_chk] at hc
    split at hc
    · rename_i r ty hq
      obtain ⟨Cn, Tn, N⟩ := r
      simp only [decide_eq_true_eq] at hc
      simp only [x_need, hq] at hw
      exact ⟨Cn, Tn, N, x_cl_at hq, hc, x_ws_in (List.mem_of_getElem? hq), Or.inl (hw _ (by simp))⟩
    · cases hc
  · exact ⟨hw _ (by simp [x_need]), hw _ (by simp [x_need]), hw _ (by simp [x_need])⟩
  · exact ⟨hw _ (by simp [x_need]), hw _ (by simp [x_need]), hw _ (by simp [x_need]), hw _ (by simp [x_need])⟩
  · exact ⟨hw _ (by simp [x_need]), hw _ (by simp [x_need]), hw _ (by simp [x_need]), hw _ (by simp [x_need])⟩
  · exact ⟨hw _ (by simp [x_need]), hw _ (by simp [x_need]), hw _ (by simp [x_need]), hw _ (by simp [x_need])⟩
  · trivial
theorem x_kk_1 {k : Nat} (h : k < 1000) : x_kk k = k := if_pos h
theorem x_kk_2 {k : Nat} (h : k < 1000) : x_kk (k + 1000) = k := by unfold x_kk; rw [if_neg (by omega), if_pos (by omega)]; omega
theorem x_kk_3 {k : Nat} (h : k < 1000) : x_kk (k + 2000) = k := by unfold x_kk; rw [if_neg (by omega), if_neg (by omega)]; omega
set_option maxHeartbeats 1000000 in
theorem x_pk_of {own : String} {ix : Nat} {i0 i : Instr} {s : State} {meth : Method} (hcl : x_clk CL) (hi : x_gp1 CL own meth.name i0 = some i) (hw : ∀ w ∈ x_need CL X ML own ix i0, w ∈ x_all MU CL X ML PL) : x_pk (x_all MU CL X ML PL) own (x_cl CL) s meth ix i := by
  unfold x_gp1 at hi
  split at hi
  · rename_i ci k
    split at hi
    · rename_i r ty hq
      obtain ⟨Cn, Tn, N⟩ := r
      simp only [x_need, hq] at hw
      obtain ⟨h1, h2, h3⟩ := hcl _ (List.mem_of_getElem? hq)
      split at hi
      · rename_i hk
        obtain ⟨k1, k2, k3⟩ := hk
        simp only at k1 k3 h1 h2
        have hl := hw _ (List.mem_cons_self)
        have hlink : ∀ kk, x_kk kk = k → (((Cond.fieldLink own ix (Tn (x_kk kk)).1 (Tn (x_kk kk)).2.1 (Tn (x_kk kk)).2.2.1 ∈ x_all MU CL X ML PL ∨ ∃ host, va_Nw (Cond.fieldLinkNest own ix (Tn (x_kk kk)).1 (Tn (x_kk kk)).2.1 (Tn (x_kk kk)).2.2.1 host) s) ∧ (Tn (x_kk kk)).2.2.2 = false)
            ∨ (Cond.fieldLink own ix (Tn (x_kk kk)).1 (Tn (x_kk kk)).2.1 (Tn (x_kk kk)).2.2.1 ∈ x_all MU CL X ML PL ∧ (Tn (x_kk kk)).2.2.2 = true ∧ meth.name = "<init>" ∧ (Tn (x_kk kk)).1 = own)) := by
          intro kk hkk
          rw [hkk]
          cases hf : (Tn k).2.2.2 with
          | false => exact Or.inl ⟨Or.inl hl, rfl⟩
          | true =>
            rcases k3 with k3 | ⟨k3, k4⟩
            · rw [hf] at k3; cases k3
            · exact Or.inr ⟨hl, rfl, k3, k4⟩
        split at hi
        · rename_i hty
          cases hi
          exact ⟨Cn, Tn, N, ty, x_cl_at hq, by rw [x_kk_1 k2]; exact k1, x_ws_in (List.mem_of_getElem? hq), h1, h2, Or.inl ⟨k2, by rw [x_kk_1 k2]; exact hty⟩, hlink _ (x_kk_1 k2)⟩
        · rename_i hty
          cases hi
          exact ⟨Cn, Tn, N, ty, x_cl_at hq, by rw [x_kk_2 k2]; exact k1, x_ws_in (List.mem_of_getElem? hq), h1, h2, Or.inr (Or.inl ⟨by omega, by omega, by rw [x_kk_2 k2]; exact hty⟩), hlink _ (x_kk_2 k2)⟩
        · rename_i hty
          cases hi
          exact ⟨Cn, Tn, N, ty, x_cl_at hq, by rw [x_kk_3 k2]; exact k1, x_ws_in (List.mem_of_getElem? hq), h1, h2, Or.inr (Or.inr ⟨by omega, Or.inl ⟨_, by rw [x_kk_3 k2]; exact hty⟩⟩), hlink _ (x_kk_3 k2)⟩
        · rename_i hty
          cases hi
          exact ⟨Cn, Tn, N, ty, x_cl_at hq, by rw [x_kk_3 k2]; exact k1, x_ws_in (List.mem_of_getElem? hq), h1, h2, Or.inr (Or.inr ⟨by omega, Or.inr ⟨_, by rw [x_kk_3 k2]; exact hty⟩⟩), hlink _ (x_kk_3 k2)⟩
        · cases hi
      · cases hi
    · cases hi
  · cases hi
theorem x_tok_of {cc : ByteArray} {F Gp : Nat → Option Instr} {ret : Option FieldType} {tab : x_R} (h1 : x_tck F Gp ret tab = true) (h2 : x_dck cc tab = true) : x_tok cc F Gp ret tab := by
  intro j pc raw len res hj
  have hlt : j < tab.length := (List.getElem?_eq_some_iff.mp hj).1
  have a := List.all_eq_true.mp h1 j (List.mem_range.mpr hlt)
  rw [hj] at a
  simp only [Bool.and_eq_true, Bool.or_eq_true, decide_eq_true_eq] at a
  have b := List.all_eq_true.mp h2 _ (List.mem_of_getElem? hj)
  simp only [decide_eq_true_eq] at b
  refine ⟨b, a.1, fun h => ?_⟩
  rcases a.2 with c | c
  · omega
  · exact c
theorem x_ok_of (hcl : x_clk CL) (hchk : ∀ q ∈ PL, ∀ r ∈ q.2, x_chk MU CL X ML q.1 r.1 r.2 = true) {μ : Nat} (hpl : plainName (x_Mf ML μ).1.cls = true) (h1 : x_tck (x_Ff PL ML μ) (x_Gf CL PL ML μ) (x_Mf ML μ).2.2.2 (TB[μ]?.getD []) = true) (h2 : x_dck (x_Mf ML μ).2.1 (TB[μ]?.getD []) = true) (h3 : x_pc (TB[μ]?.getD []) 0 = 0) : x_ok (x_cl CL) (x_Ef CL ML TB) X (x_all MU CL X ML PL) (x_Mf ML) (x_Ff PL ML) (x_Gf CL PL ML) (fun μ => TB[μ]?.getD []) μ := by
  refine ⟨hpl, x_tok_of h1 h2, rfl, rfl, h3, fun ix i hi => ?_, fun ix i hi sad s hs => ?_, fun ix i hi s meth hn => ?_⟩
  · obtain ⟨q, hq, e, hr⟩ := x_F_in hi
    rw [← e]
    exact x_l2_of hcl (hchk q hq _ hr) (x_need_in hq hr)
  · obtain ⟨q, hq, e, hr⟩ := x_F_in hi
    rw [← e]
    exact x_lk_of hs (hchk q hq _ hr) (x_need_in hq hr)
  · unfold x_Gf at hi
    split at hi
    · rename_i i0 h0
      obtain ⟨q, hq, e, hr⟩ := x_F_in h0
      rw [← e] at hi ⊢
      rw [← hn] at hi
      exact x_pk_of hcl hi (x_need_in hq hr)
    · cases hi
end X13
