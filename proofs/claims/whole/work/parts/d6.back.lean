section D6
variable {f : iF} {g : iG}
/-! ===== the steps: undo, image, text ===== -/
theorem mem_slN {c : Int → Int} {x : Int} : ∀ (m : Nat) (a : Int), x ∈ slN c m a → ∃ k, a ≤ k ∧ k < a + m ∧ c k = x
  | 0, _, h => by cases h
  | m + 1, a, h => by
    rw [slN] at h
    rcases List.mem_cons.mp h with e | e
    · exact ⟨a, Int.le_refl a, by omega, e.symm⟩
    · obtain ⟨k, k0, k1, k2⟩ := mem_slN m (a + 1) e
      exact ⟨k, by omega, by omega, k2⟩
theorem mem_sl {c : Int → Int} {x n : Int} (hn : 0 ≤ n) (h : x ∈ sl c 0 n) : ∃ k, 0 ≤ k ∧ k < n ∧ c k = x := by
  obtain ⟨k, k0, k1, k2⟩ := mem_slN _ _ h
  exact ⟨k, k0, by omega, k2⟩
theorem mem_flt : ∀ {L : Lw} {q : List Int × List Int} {x : Int}, q ∈ L → x ∈ q.1 ++ q.2 → x ∈ flt1 L
  | [], _, _, h, _ => by cases h
  | y :: L, q, x, h, hx => by
    show x ∈ y.1 ++ (y.2 ++ flt1 L)
    rcases List.mem_cons.mp h with e | e
    · rw [e] at hx
      rw [← List.append_assoc]
      exact List.mem_append_left _ hx
    · exact List.mem_append_right _ (List.mem_append_right _ (mem_flt e hx))
/-- the law that was read, on both sides -/
theorem law_both {kd nx : Int → Int} {a0 a n m k j : Int} {c cn st : Int → Int} {F : iF} (hk : ∀ a, kd a ≤ 10999) (h : Rch kd nx (0, [], a0, [], []) (99, [], a, sl c 0 n, wlI cn st k)) (hn : 0 ≤ n ∧ n ≤ 400) (hk0 : 0 ≤ k ∧ k ≤ 16) (h0 : st 0 = 0) (hm : 0 ≤ m ∧ m ≤ 400) (hj : 0 ≤ j ∧ j ≤ 16) (e1 : sl c 0 n = sl (rcd F) 0 m) (e2 : wlI cn st k = wlI (F 94) (fun x => F 96 (x - 1)) j) (h95 : ∀ l, 0 ≤ l → l < j → F 95 l = if l = 0 then 0 else F 96 (l - 1)) (hl : F (fv 79 27) 0 = j) (hop : ∀ k, 0 ≤ k → k < 400 → opok (F 97 k) (F 98 k)) : ∃ L : Lw, lwok L ∧ sl c 0 n = flt1 L ∧ mkl (fun l => (sl c (st l) (cn l), sl c (cn l) (st (l + 1)))) k.toNat 0 = L ∧ (∀ l, 0 ≤ l → l < k → 0 ≤ st l ∧ st l < cn l ∧ cn l ≤ st (l + 1) ∧ st (l + 1) ≤ n ∧ lnok (sl c (st l) (cn l), sl c (cn l) (st (l + 1)))) ∧ lB F ∧ lwR F = L ∧ k = j := by
  obtain ⟨L, hL, hC, hW⟩ := JJ_end hk h
  obtain ⟨q1, q2⟩ := law_ok hn.1 hk0.1 h0 hL hC hW
  have hsw : wlI (F 94) (fun x => if x = 0 then 0 else F 96 (x - 1)) j = wlI (F 94) (fun x => F 96 (x - 1)) j := wlN_cg _ (fun q q0 q1 => ⟨rfl, by show (if (q : Int) + 1 = 0 then 0 else F 96 ((q : Int) + 1 - 1)) = F 96 ((q : Int) + 1 - 1); rw [if_neg (by omega)]⟩)
  obtain ⟨p1, p2⟩ := law_ok (c := rcd F) (cn := F 94) (st := fun x => if x = 0 then 0 else F 96 (x - 1)) hm.1 hj.1 (if_pos rfl) hL (by rw [← e1]; exact hC) (by rw [hsw, ← e2]; exact hW)
  have hkj : k = j := by
    have a1 := wlI_len (cn := cn) (st := st) hk0.1
    have a2 := wlI_len (cn := F 94) (st := fun x => F 96 (x - 1)) hj.1
    rw [← e2] at a2
    omega
  have hln : ∀ l, 0 ≤ l → l < j → F 95 l = (if l = 0 then 0 else F 96 (l - 1)) ∧ lnR F l = (sl (rcd F) (if l = 0 then 0 else F 96 (l - 1)) (F 94 l), sl (rcd F) (F 94 l) (if l + 1 = 0 then 0 else F 96 (l + 1 - 1))) := by
    intro l l0 l1
    refine ⟨h95 l l0 l1, ?_⟩
    show (sl (rcd F) (F 95 l) (F 94 l), sl (rcd F) (F 94 l) (F 96 l)) = _
    rw [h95 l l0 l1, if_neg (show ¬ l + 1 = 0 by omega), show l + 1 - 1 = l by omega]
  refine ⟨L, hL, hC, q1, q2, ⟨by rw [hl]; exact hj, fun l l0 l1 => ?_, hop⟩, ?_, hkj⟩
  · rw [hl] at l1
    have b := p2 l l0 l1
    obtain ⟨c1, c2⟩ := hln l l0 l1
    rw [c1, c2]
    have b3 : F 94 l ≤ (if l + 1 = 0 then 0 else F 96 (l + 1 - 1)) := b.2.2.1
    have b4 : (if l + 1 = 0 then 0 else F 96 (l + 1 - 1)) ≤ m := b.2.2.2.1
    rw [if_neg (show ¬ l + 1 = 0 by omega), show l + 1 - 1 = l by omega] at b3 b4
    exact ⟨b.1, b.2.1, b3, by omega, b.2.2.2.2⟩
  · unfold lwR
    rw [hl, mkl_congr _ _ (fun l l0 l1 => (hln l l0 (by omega)).2)]
    exact p1
set_option maxRecDepth 100000 in
set_option maxHeartbeats 4000000 in
theorem st_undo (h : Inv f g) : StP 210 3 [] f g := by
  obtain ⟨hH, hT, hF, hS, hI, hFe, hBy, hSw, hM, hW, h44⟩ := h
  obtain ⟨hcr, hpu, hbr, hst, hhu, hto, how, hbu, hpr, hnw, hdy, hje, hpg, hwd, hro, hlw⟩ := id hH
  have es : f (fv 79 3) 0 = f (fv 48 5) 0 := hS.1.symm
  have hn := hS.2.1
  refine k_undo (by decide) hS.2.1 (fun hc => ⟨_, rfl, ?_⟩) (fun f1 hc h1 h2 h3 h4 => ⟨_, rfl, ?_⟩)
  · exact c_undo (by decide) (by rw [es]; exact hS.2.1) (fun hk => ⟨rfl, ⟨⟨hcr, hpu, hbr, hst, hhu, hto, how, hbu, hpr, hnw, hdy, hje, hpg, hwd, hro, hlw⟩, hT, hF, hS, hI, hFe, hBy, hSw, hM, hW, h44⟩⟩) (fun f2 hk => absurd hk (by rw [es]; omega))
  · refine c_undo (by decide) (by show 0 ≤ f (fv 79 3) 0 ∧ f (fv 79 3) 0 ≤ 6; rw [es]; exact hS.2.1) (fun hk => absurd hk (by show ¬ f (fv 79 3) 0 = 0; rw [es]; omega)) (fun f2 hk k1 k2 => ⟨rfl, ?_⟩)
    have k1 : f2 (fv 79 3) 0 = f (fv 79 3) 0 - 1 := k1
    have k2 : ∀ j, 0 ≤ j → j < 40 → f2 80 j = f 81 (40 * (f (fv 79 3) 0 - 1) + j) := k2
    rw [es] at k1 k2
    obtain ⟨b1, b2, b3, b4, b5, b6⟩ := hS.2.2 (f (fv 48 5) 0 - 1) (by omega) (by omega)
    have b6 := b6 (by omega)
    have q1 : iPu (f1 2) (f2 80) := fun a a0 a1 => by
      have e := b1 a a0 a1
      rw [h2 a a0 a1, k2 a a0 (by omega), show (f (fv 48 5) 0 - 1) * 8 + a = 8 * (f (fv 48 5) 0 - 1) + a by omega]; exact e
    have q2 : iPr (f1 9) (f2 80) := fun s s0 s1 => by
      rw [h3 s s0 s1, k2 (8 + s) (by omega) (by omega), show (f (fv 48 5) 0 - 1) * 29 + s = 29 * (f (fv 48 5) 0 - 1) + s by omega]; exact b2 s s0 s1
    have hr2 := hnw.2.2.2
    have q3 : iNw (f1 (fv 1 13) 0) (f1 (fv 1 14) 0) (f1 (fv 1 17) 0) (f2 80) := by
      rw [h4.1, h4.2.1, h4.2.2]
      exact ⟨by rw [k2 37 (by decide) (by decide)]; exact b3.1, by rw [k2 38 (by decide) (by decide)]; exact b3.2.1, by rw [k2 39 (by decide) (by decide)]; exact b3.2.2, b4, by omega⟩
    have q4 : iRo (f1 (fv 1 13) 0) (f 19) (f 103) := fun k k0 k1 => hro k k0 (by rw [h4.1] at k1; omega)
    have q5 : iSh (f1 (fv 48 5) 0) (f2 (fv 79 3) 0) (f1 (fv 1 13) 0) (f 49) (f 50) (f 51) (f 52) (f 53) (f 81) := by
      rw [h1, k1]
      refine ⟨rfl, by omega, fun r r0 r1 => ?_⟩
      obtain ⟨c1, c2, c3, c4, c5, c6⟩ := hS.2.2 r r0 (by omega)
      refine ⟨c1, c2, c3, c4, fun h => c5 (by omega), fun h => ?_⟩
      have := c5 (by omega)
      rw [h4.1, show f (fv 48 5) 0 - 1 = r + 1 by omega]; exact this
    exact ⟨⟨hcr, q1, hbr, hst, hhu, hto, how, hbu, q2, q3, hdy, hje, hpg, hwd, q4, hlw⟩, hT, hF, q5, hI, hFe, hBy, hSw, hM, hW, h44⟩

set_option maxRecDepth 100000 in
set_option maxHeartbeats 4000000 in
theorem st_image {tk : Int} (htk : tk = 0 ∨ tk = 1) (h : Inv f g) : StP 211 83 [iI tk] f g := by
  obtain ⟨hH, hT, hF, hS, hI, hFe, hBy, hSw, hM, hW, h44⟩ := h
  obtain ⟨hcr, hpu, hbr, hst, hhu, hto, how, hbu, hpr, hnw, hdy, hje, hpg, hwd, hro, hlw⟩ := id hH
  have e50 : f (fv 79 50) 0 = f (fv 0 2) 0 := hI.1.symm
  have h5 : f (fv 79 50) 0 = 0 ∨ f (fv 79 50) 0 = 1 := by rw [e50]; exact hI.2.1
  refine k_image (by decide) hpg.2.1 (fun q => by have e := hI.2.2 (by have := hI.2.1; omega); exact (show iPg (f (fv 29 1) 0) _ _ _ from e.2.2.2.2.2.2.2.2.2.2.2.2.1).2.1) (fun hc => ⟨_, rfl, ?_⟩) (fun f1 hc h1 h2 h3 h4 h5 h6 h7 h8 h9 h10 h11 h12 h13 h14 h15 h16 h17 h18 h19 h20 => ⟨_, rfl, ?_⟩) (fun f1 g1 hc h1 hm h2 h3 h4 h5 h6 h7 h8 h9 h10 h11 h12 h13 h14 h15 h16 h17 h18 h19 h20 => ⟨_, rfl, ?_⟩)
  · exact c_image (by decide) htk h5 (fun hk => ⟨rfl, ⟨⟨hcr, hpu, hbr, hst, hhu, hto, how, hbu, hpr, hnw, hdy, hje, hpg, hwd, hro, hlw⟩, hT, hF, hS, hI, hFe, hBy, hSw, hM, hW, h44⟩⟩) (fun f2 hk => absurd hk (by rw [e50]; omega))
  · refine c_image (by decide) htk (show f (fv 79 50) 0 = 0 ∨ f (fv 79 50) 0 = 1 from by rw [e50]; exact hI.2.1) (fun hk => absurd hk.1 hc) (fun f2 hk k1 kt0 kt1 ka kb kc => ⟨rfl, ?_⟩)
    obtain ⟨k3, k80, k82, k83, k84, k85, k86, k87, kcr, kje, kdy, k88, k90, k91, k103, kpn, kwn, k94, k95, k96, k97, k98, kln⟩ := kt1 (by omega)
    have hH2 : HR f f2 := HR_cg hH ⟨⟨rfl, rfl, rfl, rfl, rfl, rfl⟩, fun q _ _ => ⟨rfl, rfl, rfl, rfl, rfl⟩, fun q _ _ => ⟨rfl, rfl, rfl⟩, rfl, fun q _ _ => rfl, fun q _ _ => rfl, fun q _ _ => rfl, rfl, fun q _ _ => rfl⟩ ⟨fun q _ _ => rfl, fun q _ _ => rfl, fun q _ _ => rfl, rfl, rfl⟩ ⟨⟨kcr, kje, kdy, kpn, kwn⟩, fun q _ _ => congrFun k80 q, fun q _ _ => ⟨congrFun k82 q, congrFun k83 q, congrFun k84 q, congrFun k85 q⟩, fun q _ _ => ⟨congrFun k86 q, congrFun k87 q⟩, fun q _ _ => congrFun k88 q, fun q _ _ => congrFun k90 q, fun q _ _ => congrFun k91 q, fun q _ _ => congrFun k103 q⟩ ⟨kln, fun q _ _ => ⟨congrFun k94 q, congrFun k95 q, congrFun k96 q⟩, fun q _ _ => ⟨congrFun k97 q, congrFun k98 q⟩⟩
    have hK : HR (kH f1) (rI f2) := HR_cg hH2 ⟨⟨h2.1, h2.2.1, h2.2.2.1, h2.2.2.2.1, h2.2.2.2.2.1, h2.2.2.2.2.2⟩, fun q q0 q1 => ⟨h3 q q0 q1, h4 q q0 q1, h5 q q0 q1, h6 q q0 q1, h7 q q0 q1⟩, fun q q0 q1 => ⟨h8 q q0 q1, h9 q q0 q1, h10 q q0 q1⟩, h11, h12, h13, h14, h15, h20⟩ ⟨h16, h17, h18, h19.2.1, h19.2.2⟩ ⟨⟨(ka.2.1).symm, (ka.2.2.2.2.2.2.2.2.1).symm, (ka.2.2.2.2.2.2.2.2.2).symm, (kb.1).symm, (kb.2.2.1).symm⟩, fun q q0 q1 => (ka.1 q q0 q1).symm, fun q q0 q1 => ⟨(ka.2.2.1 q q0 q1).symm, (ka.2.2.2.1 q q0 q1).symm, (ka.2.2.2.2.1 q q0 q1).symm, (ka.2.2.2.2.2.1 q q0 q1).symm⟩, fun q q0 q1 => ⟨(ka.2.2.2.2.2.2.1 q q0 q1).symm, (ka.2.2.2.2.2.2.2.1 q q0 q1).symm⟩, fun q q0 q1 => (kb.2.1 q q0 q1).symm, fun q q0 q1 => (kb.2.2.2.1 q q0 q1).symm, fun q q0 q1 => (kb.2.2.2.2.1 q q0 q1).symm, fun q q0 q1 => (kb.2.2.2.2.2 q q0 q1).symm⟩ ⟨(kc.1).symm, fun q q0 q1 => ⟨(kc.2.1 q q0 q1).symm, (kc.2.2.1 q q0 q1).symm, (kc.2.2.2.1 q q0 q1).symm⟩, fun q q0 q1 => ⟨(kc.2.2.2.2.1 q q0 q1).symm, (kc.2.2.2.2.2 q q0 q1).symm⟩⟩
    exact ⟨hH2, hT, hF, (by show iSh (f (fv 48 5) 0) (f2 (fv 79 3) 0) (f (fv 1 13) 0) (f 49) (f 50) (f 51) (f 52) (f 53) (f 81); rw [show f2 (fv 79 3) 0 = f (fv 79 3) 0 from k3]; exact hS), ⟨(by show f1 (fv 0 2) 0 = f2 (fv 79 50) 0; rw [h1, k1]), Or.inr h1, fun _ => hK⟩, hFe, hBy, hSw, hM, hW, h44⟩
  · refine c_image (by decide) htk (show f (fv 79 50) 0 = 0 ∨ f (fv 79 50) 0 = 1 from by rw [e50]; exact hI.2.1) (fun hk => absurd hk.2 (by show ¬ f (fv 79 50) 0 = 0; rw [e50]; exact hc.2)) (fun f2 hk k1 kt0 kt1 ka kb kc => ⟨rfl, ?_⟩)
    obtain ⟨k105, k3⟩ := kt0 hc.1
    have k105 : f2 105 = f 105 := k105
    have hI1 : f (fv 0 2) 0 = 1 := by have := hI.2.1; omega
    have hK := hI.2.2 hI1
    have hX : rI f2 = rI f := by unfold rI; rw [k105]
    rw [← hX] at hK
    have hH2 : HR f1 f2 := HR_cg hK ⟨⟨h2.1, h2.2.1, h2.2.2.1, h2.2.2.2.1, h2.2.2.2.2.1, h2.2.2.2.2.2⟩, fun q q0 q1 => ⟨h3 q q0 q1, h4 q q0 q1, h5 q q0 q1, h6 q q0 q1, h7 q q0 q1⟩, fun q q0 q1 => ⟨h8 q q0 q1, h9 q q0 q1, h10 q q0 q1⟩, h11, h12, h13, h14, h15, h20⟩ ⟨h16, h17, h18, h19.2.1, h19.2.2⟩ ⟨⟨ka.2.1, ka.2.2.2.2.2.2.2.2.1, ka.2.2.2.2.2.2.2.2.2, kb.1, kb.2.2.1⟩, fun q q0 q1 => ka.1 q q0 q1, fun q q0 q1 => ⟨ka.2.2.1 q q0 q1, ka.2.2.2.1 q q0 q1, ka.2.2.2.2.1 q q0 q1, ka.2.2.2.2.2.1 q q0 q1⟩, fun q q0 q1 => ⟨ka.2.2.2.2.2.2.1 q q0 q1, ka.2.2.2.2.2.2.2.1 q q0 q1⟩, fun q q0 q1 => kb.2.1 q q0 q1, fun q q0 q1 => kb.2.2.2.1 q q0 q1, fun q q0 q1 => kb.2.2.2.2.1 q q0 q1, fun q q0 q1 => kb.2.2.2.2.2 q q0 q1⟩ ⟨kc.1, fun q q0 q1 => ⟨kc.2.1 q q0 q1, kc.2.2.1 q q0 q1, kc.2.2.2.1 q q0 q1⟩, fun q q0 q1 => ⟨kc.2.2.2.2.1 q q0 q1, kc.2.2.2.2.2 q q0 q1⟩⟩
    have ht62 := h1.2.1
    exact ⟨hH2, hT, hF, (by show iSh (f1 (fv 48 5) 0) (f2 (fv 79 3) 0) _ _ _ _ _ _ _; rw [h1.1, show f2 (fv 79 3) 0 = 0 from k3]; exact ⟨rfl, by decide, fun r r0 r1 => absurd r1 (by omega)⟩), ⟨(by show f (fv 0 2) 0 = f2 (fv 79 50) 0; rw [hI1, k1]), Or.inr hI1, fun _ => (by show HR (kH f) (rI f2); rw [hX]; exact hI.2.2 hI1)⟩, ⟨fun h => absurd h1.2.1 h, hFe.2⟩, fun h => absurd h (by show ¬ 0 ≤ f1 (fv 72 0) 0; rw [h1.2.2.1]; decide), fun h => absurd h1.2.2.2 h, hm _, hW, h44⟩

set_option maxRecDepth 100000 in
set_option maxHeartbeats 4000000 in
theorem st_text (h : Inv f g) : StP 192 40 [] f g := by
  obtain ⟨hH, hT, hF, hS, hI, hFe, hBy, hSw, hM, hW, h44⟩ := h
  obtain ⟨hcr, hpu, hbr, hst, hhu, hto, how, hbu, hpr, hnw, hdy, hje, hpg, hwd, hro, hlw⟩ := id hH
  have et : f (fv 79 21) 0 = f (fv 39 1) 0 := hT.1.symm
  have hl := hT.2.1.1
  have htR : tpB (f 92) (f (fv 79 21) 0) := by rw [et]; exact ⟨hl, fun k k0 k1 => by rw [← hT.2.2 k k0 k1]; exact hT.2.1.2 k k0 k1⟩
  have hk9 : ∀ a, kdC f a ≤ 10999 := fun a => by have := kdP_r (t := f 40) (len := f (fv 39 1) 0) (a := a); show kdP (f 40) (f (fv 39 1) 0) a ≤ 10999; omega
  have hcg : ∀ a, 0 ≤ a → a ≤ f (fv 39 1) 0 → kdR f a = kdC f a ∧ nxR f a = nxC f a ∧ 0 ≤ nxR f a ∧ nxR f a ≤ f (fv 39 1) 0 := fun a a0 a1 => by
    show kdP (f 92) (f (fv 79 21) 0) a = kdP (f 40) (f (fv 39 1) 0) a ∧ nxP (f 92) (f (fv 79 21) 0) a = nxP (f 40) (f (fv 39 1) 0) a ∧ 0 ≤ nxP (f 92) (f (fv 79 21) 0) a ∧ nxP (f 92) (f (fv 79 21) 0) a ≤ f (fv 39 1) 0
    rw [et]
    have q := nxP_r (t := f 92) a1
    exact ⟨kdP_cg (fun k k0 k1 => (hT.2.2 k k0 k1).symm) a0, nxP_cg (fun k k0 k1 => (hT.2.2 k k0 k1).symm) a0 a1, by omega, q.2⟩
  have hsk : skp (f 92) (f (fv 79 21) 0) 0 = skp (f 40) (f (fv 39 1) 0) 0 := by rw [et]; exact skp_cg (fun k k0 k1 => (hT.2.2 k k0 k1).symm) (Int.le_refl _)
  have hs0 := skp_r (t := f 40) (len := f (fv 39 1) 0) (a := 0) hl.1
  have conv : ∀ u, Rch (kdR f) (nxR f) (0, [], skp (f 92) (f (fv 79 21) 0) 0, [], []) u → Rch (kdC f) (nxC f) (0, [], skp (f 40) (f (fv 39 1) 0) 0, [], []) u := fun u q => by
    rw [hsk] at q
    exact Rch_cg hcg hs0.1 hs0.2 q
  refine k_text (by decide) hT.2.1 h44 (fun f1 g1 h1 h2 h3 h4 h5 h6 h7 hm => ⟨_, rfl, ?_⟩) (fun f1 h1 h2 h3 => ⟨_, rfl, ?_⟩)
  · refine c_text (by decide) htR hW (fun kk nn f2 k1 k2 k3 k4 k5 k6 => ⟨?_, ?_⟩) (fun f2 k1 => ?_)
    all_goals obtain ⟨a1, q1⟩ := h1
    · obtain ⟨a2, q2⟩ := k1
      have e := r_u q1 (conv _ q2) fix99 fix99
      simp only [Prod.mk.injEq] at e
      have a1 := wlI_len (cn := f1 18) (st := f1 17) h4.1
      have a2 := wlI_len (cn := f2 94) (st := fun x => f2 96 (x - 1)) k2.1
      rw [← e.2.2.2.2] at a2
      rw [show kk = f1 (fv 15 4) 0 by omega]
    · obtain ⟨a2, q2⟩ := k1
      have e := r_u q1 (conv _ q2) fix99 fix99
      simp only [Prod.mk.injEq] at e
      obtain ⟨L, hL, hC, w1, w2, w3, w4, w5⟩ := law_both hk9 q1 h3 h4 h5.1 k3 k2 e.2.2.2.1 e.2.2.2.2 k4 k6.1 (k5 hlw.2.1.2.2)
      have hlw2 : iLw f1 f2 := by
        have hlc : lwC f1 = L := w1
        refine ⟨⟨h4, fun l l0 l1 => ?_⟩, w3, by rw [hlc, w4], ?_, by rw [w5, k6.1]⟩
        · have q := w2 l l0 l1
          exact ⟨q.1, q.2.1, q.2.2.1, by omega, q.2.2.2.2⟩
        · rw [hlc]
          intro q hq c hc c0 c1
          have hmem := mem_flt hq hc
          rw [← hC] at hmem
          obtain ⟨k, k0, k9, rfl⟩ := mem_sl h3.1 hmem
          exact h2.2 k k0 k9 c0 c1
      exact ⟨⟨hcr, hpu, hbr, hst, hhu, hto, how, hbu, hpr, hnw, hdy, hje, hpg, hwd, hro, hlw2⟩, (by show iTp (f1 (fv 39 1) 0) (f2 (fv 79 21) 0) (f 40) (f 92); rw [h7.1, k6.2.1]; exact ⟨rfl, ⟨by decide, fun k k0 k1 => absurd k1 (by omega)⟩, fun k k0 k1 => absurd k1 (by omega)⟩), ⟨(by show f1 (fv 41 1) 0 = f2 (fv 79 39) 0; rw [h6.1, k6.2.2.1]), (by show f1 (fv 41 2) 0 = f2 (fv 79 40) 0; rw [h6.2, k6.2.2.2.1])⟩, hS, hI, ⟨fun h => absurd h7.2.1 h, hFe.2⟩, fun h => absurd h (by show ¬ 0 ≤ f1 (fv 72 0) 0; rw [h7.2.2.1]; decide), fun h => absurd h7.2.2.2 h, hm _, hW, h5.2⟩
    · obtain ⟨C2, W2, q2⟩ := k1
      have e := r_u q1 (conv _ q2) fix99 fix100
      simp only [Prod.mk.injEq] at e
      exact absurd e.1 (by decide)
  · refine c_text (by decide) htR hW (fun kk nn f2 k1 => ?_) (fun f2 k1 k2 k3 k4 => ⟨rfl, ?_⟩)
    all_goals obtain ⟨C1, W1, q1⟩ := h1
    · obtain ⟨a2, q2⟩ := k1
      have e := r_u q1 (conv _ q2) fix100 fix99
      simp only [Prod.mk.injEq] at e
      exact absurd e.1 (by decide)
    · obtain ⟨C2, W2, q2⟩ := k1
      have e := r_u q1 (conv _ q2) fix100 fix100
      simp only [Prod.mk.injEq, List.cons.injEq] at e
      obtain ⟨b1, b2⟩ := lw_r (E := mx [97, 98, fv 79 33, fv 79 22, fv 79 23, fv 79 24, fv 79 25, fv 79 34, fv 79 36, 99, 94, 95, 96, fv 79 37, fv 79 38, fv 79 0, fv 79 39, fv 79 40, fv 79 21] f f2) hlw.2.1 ⟨rfl, fun q q0 q1 => (by have z := k3 q (by omega); exact ⟨z.1, z.2.1, z.2.2⟩), fun q q0 q1 => k2 q q1⟩
      exact ⟨⟨hcr, hpu, hbr, hst, hhu, hto, how, hbu, hpr, hnw, hdy, hje, hpg, hwd, hro, ⟨hlw.1, b1, hlw.2.2.1.trans b2.symm, hlw.2.2.2.1, hlw.2.2.2.2⟩⟩, (by show iTp (f1 (fv 39 1) 0) (f2 (fv 79 21) 0) (f 40) (f 92); rw [h3, k4.1]; exact ⟨rfl, ⟨by decide, fun k k0 k1 => absurd k1 (by omega)⟩, fun k k0 k1 => absurd k1 (by omega)⟩), ⟨e.2.1.1, e.2.2.1⟩, hS, hI, hFe, hBy, hSw, hM, hW, h2⟩

end D6
