section C46
variable {d : Nat} {f : iF} {g : iG} {Q : Option iv → iF → iG → Prop}
/-! ===== the reference: claims joined ===== -/
section AN
variable {kd nx : Int → Int} {a : Int} {P R C D W : List Int} {k : Nat}
theorem an_9 (h : P = List.replicate k 9 ++ R) (hC : D = C ++ List.replicate k (enc 9 0)) (h9 : ¬ hdv R = 9) : Rch kd nx (9, P ++ [22], a, C, W) (10, R ++ [22], a, D, W) := by
  rw [h, hC, List.append_assoc]
  exact r_t (st_9 k C W) (q_9e (hd22 h9 (by decide)))
theorem an_10 (h : P = List.replicate k 10 ++ R) (hC : D = C ++ List.replicate k (enc 10 0)) (h9 : ¬ hdv R = 10) : Rch kd nx (10, P ++ [22], a, C, W) (11, R ++ [22], a, D, W) := by
  rw [h, hC, List.append_assoc]
  exact r_t (st_10 k C W) (q_10e (hd22 h9 (by decide)))
theorem an_11 (h : P = List.replicate k 11 ++ R) (hC : D = C ++ List.replicate k (enc 11 0)) (h9 : ¬ hdv R = 11) : Rch kd nx (12, P ++ [22], a, C, W) (13, R ++ [22], a, D, W) := by
  rw [h, hC, List.append_assoc]
  exact r_t (st_11 k C W) (q_12e (hd22 h9 (by decide)))
theorem opn_22 : ∀ P : List Int, opn (P ++ [22]) = opn P
  | [] => rfl
  | x :: P => by rw [List.cons_append, opn, opn, opn_22 P]
theorem pok_9 (h : pok P) : pok (9 :: P) := ⟨by decide, fun e => absurd e (by decide), fun e => absurd e (by decide), h⟩
theorem pok_12 (h : pok P) : pok (12 :: P) := ⟨by decide, fun e => absurd e (by decide), fun e => absurd e (by decide), h⟩
theorem pok_10 (h : pok P) (h9 : ¬ hdv P = 9) (h10 : ¬ hdv P = 10) : pok (10 :: P) := ⟨by decide, fun _ => ⟨h9, h10⟩, fun e => absurd e (by decide), h⟩
theorem pok_11 (h : pok P) (h9 : ¬ hdv P = 9) (h10 : ¬ hdv P = 10) (h11 : ¬ hdv P = 11) : pok (11 :: P) := ⟨by decide, fun e => absurd e (by decide), fun _ => ⟨h9, h10, h11⟩, h⟩
theorem opn11 : opn (11 :: P) = opn P := by rw [opn, if_neg (by decide)]; omega
end AN
theorem c_isWordK {v9 : Int} (hd : 1 ≤ d) (hrd : (rdR f)) (hv : 0 ≤ v9 ∧ v9 ≤ 13) (k0 : ((kdR f) (f (fv 79 23) 0) = v9 + 3) → Q (some (iI 1)) f g) (k1 : (¬ (kdR f) (f (fv 79 23) 0) = v9 + 3) → Q (some (iI 0)) f g) : wq d 29 [iR 79, iI v9] f g Q := by
  have ht := rdR_t hrd
  exact c_isWord hd (fun h1 h2 => k0 (by omega)) (fun h => k1 (fun q => h (by omega)))
theorem c_isSignK {v9 : Int} (hd : 1 ≤ d) (hrd : (rdR f)) (hv : 40 ≤ v9 ∧ v9 ≤ 62) (k0 : ((kdR f) (f (fv 79 23) 0) = v9) → Q (some (iI 1)) f g) (k1 : (¬ (kdR f) (f (fv 79 23) 0) = v9) → Q (some (iI 0)) f g) : wq d 30 [iR 79, iI v9] f g Q := by
  have ht := rdR_t hrd
  exact c_isSign hd (fun h1 h2 => k0 (by omega)) (fun h => k1 (fun q => h (by omega)))
theorem c12_len : ∀ P : List Int, c12 P ≤ P.length
  | [] => Int.le_refl 0
  | x :: P => by have := c12_len P; rw [c12, List.length_cons]; split <;> omega
set_option maxRecDepth 100000 in
set_option maxHeartbeats 4000000 in
theorem c_any (hd : 8 ≤ d) (hrd : (rdR f)) (hsz : (f (fv 79 33) 0) ≤ (f (fv 79 23) 0)) (hop0 : (f (fv 79 34) 0) = 0) (k0 : ∀ f1 : iF, ( (rdR (mx [97, 98, fv 79 33, fv 79 22, fv 79 23, fv 79 24, fv 79 25, fv 79 34, fv 79 36, 99] f f1))) → (∀ W, Rch (kdR f) (nxR f) (8, [22], (f (fv 79 23) 0), (sl (rcd f) 400 (400 + (f (fv 79 33) 0))), W) (16, [], f1 (fv 79 23) 0, (sl (rcd f1) 400 (400 + f1 (fv 79 33) 0)), W)) → (f1 (fv 79 33) 0 - f1 (fv 79 23) 0 ≤ (f (fv 79 33) 0) - (f (fv 79 23) 0)) → ((f (fv 79 23) 0) ≤ f1 (fv 79 23) 0) → ((dfr f) f1) → (f1 (fv 79 34) 0 = 0) → Q (some (iI 0)) (mx [97, 98, fv 79 33, fv 79 22, fv 79 23, fv 79 24, fv 79 25, fv 79 34, fv 79 36, 99] f f1) g) (k1 : ∀ f1 : iF, (∀ W, flt (kdR f) (nxR f) (8, [22], (f (fv 79 23) 0), (sl (rcd f) 400 (400 + (f (fv 79 33) 0))), W) (f1 (fv 79 37) 0) (f1 (fv 79 38) 0)) → ((dfr f) f1) → Q (some (iI (-1))) (mx [97, 98, fv 79 33, fv 79 22, fv 79 23, fv 79 24, fv 79 25, fv 79 34, fv 79 36, 99, fv 79 37, fv 79 38] f f1) g) : wq d 38 [iR 79] f g Q := by
  obtain ⟨d, rfl⟩ : ∃ e, d = e + 1 := ⟨d - 1, by omega⟩
  refine i_meth [(7, 3)] (fun n j lv st f' g' => (j = 7 ∧ ∃ (br9 : Int) (du9 : Int) (f1 : iF), lv = [some (iR 79), some (iI br9), some (iI du9)] ∧ st = [] ∧ f' = (mx [97, 98, fv 79 33, fv 79 22, fv 79 23, fv 79 24, fv 79 25, fv 79 34, fv 79 36, 99] f f1) ∧ g = g' ∧ (rdR (mx [97, 98, fv 79 33, fv 79 22, fv 79 23, fv 79 24, fv 79 25, fv 79 34, fv 79 36, 99] f f1)) ∧ (0 ≤ f1 (fv 79 36) 0 ∧ pok (pdI (f1 99) (f1 (fv 79 36) 0))) ∧ (br9 = c12 (pdI (f1 99) (f1 (fv 79 36) 0))) ∧ (f1 (fv 79 34) 0 = opn (pdI (f1 99) (f1 (fv 79 36) 0)) ∧ f1 (fv 79 34) 0 ≤ 8) ∧ (du9 = 0 ∨ du9 = 1) ∧ (du9 = 0 → ¬ hdv (pdI (f1 99) (f1 (fv 79 36) 0)) = 9) ∧ ((du9 = 1 → ∀ W, Rch (kdR f) (nxR f) (8, [22], f (fv 79 23) 0, sl (rcd f) 400 (400 + f (fv 79 33) 0), W) (8, pdI (f1 99) (f1 (fv 79 36) 0) ++ [22], f1 (fv 79 23) 0, sl (rcd f1) 400 (400 + f1 (fv 79 33) 0), W)) ∧ (du9 = 0 → ∀ W, Rch (kdR f) (nxR f) (8, [22], f (fv 79 23) 0, sl (rcd f) 400 (400 + f (fv 79 33) 0), W) (10, pdI (f1 99) (f1 (fv 79 36) 0) ++ [22], f1 (fv 79 23) 0, sl (rcd f1) 400 (400 + f1 (fv 79 33) 0), W))) ∧ (f1 (fv 79 33) 0 + f1 (fv 79 36) 0 - f1 (fv 79 23) 0 ≤ f (fv 79 33) 0 - f (fv 79 23) 0) ∧ (f (fv 79 23) 0 ≤ f1 (fv 79 23) 0) ∧ (dfr f f1) ∧ (n : Int) = 401 - (f1 (fv 79 23) 0))) 402 (by omega) rfl rfl (fun n j lv st f' g' hn hI O J hO hF hB => ?_) (fun hvs hin O J hO hF => ?_)
  · obtain ⟨rfl, br9, du9, f1, rfl, rfl, rfl, rfl, hrd1, hP, hbr, hop, hdu, h9, hR, hz, hfp, hdf, hm⟩ := hI
    have hb0 := rdR_b hrd
    have hb1 : 0 ≤ f1 (fv 79 23) 0 ∧ f1 (fv 79 23) 0 ≤ f (fv 79 21) 0 ∧ f (fv 79 21) 0 ≤ 400 ∧ 0 ≤ f1 (fv 79 33) 0 := rdR_b hrd1
    have hcn : ¬ kdR f (f1 (fv 79 23) 0) = 0 → f1 (fv 79 23) 0 < nxR f (f1 (fv 79 23) 0) ∧ nxR f (f1 (fv 79 23) 0) ≤ f (fv 79 21) 0 := fun q => rdR_n hrd1 q
    have hpl := (pok_len hP.2).1
    rw [pdI_len hP.1] at hpl
    have hp26 : f1 (fv 79 36) 0 ≤ 26 := by omega
    have hc0 := c12_r (pdI (f1 99) (f1 (fv 79 36) 0))
    have hcl : br9 ≤ 26 := by have q := c12_len (pdI (f1 99) (f1 (fv 79 36) 0)); rw [pdI_len hP.1] at q; omega
    refine ⟨fun (hh_1 : du9 = 0) => ?_, fun (hh_1 : ¬ du9 = 0) => ?_⟩
    · refine hO (c_isWordK (by omega) (show (rdR (mx [97, 98, fv 79 33, fv 79 22, fv 79 23, fv 79 24, fv 79 25, fv 79 34, fv 79 36, 99] f f1)) from hrd1) (show 0 ≤ 3 ∧ 3 ≤ 13 from by decide) (fun (hh_2 : (kdR f) (f1 (fv 79 23) 0) = 3 + 3) => ?_) (fun (hh_3 : ¬ (kdR f) (f1 (fv 79 23) 0) = 3 + 3) => ?_))
      · refine ⟨fun h => absurd (show (1 : Int) = 0 from h) (by decide), fun _ => ?_⟩
        refine hO (c_settles (by omega) (show (rdR (mx [97, 98, fv 79 33, fv 79 22, fv 79 23, fv 79 24, fv 79 25, fv 79 34, fv 79 36, 99] f f1)) from hrd1) (show (f1 (fv 79 33) 0) + (f1 (fv 79 36) 0) ≤ 400 from by omega) (show 0 ≤ (f1 (fv 79 36) 0) ∧ (f1 (fv 79 36) 0) ≤ 40 from by omega) (show 9 ≤ 10 ∧ 10 ≤ 11 from by decide) (show 10 = 9 → 0 ≤ (f1 (fv 79 34) 0) ∧ (f1 (fv 79 34) 0) ≤ 100 from fun h => absurd h (by decide)) (fun kk_4 f1_5 (hh_6 :  (rdR (mx [97, 98, fv 79 33, fv 79 34, fv 79 36] (mx [97, 98, fv 79 33, fv 79 22, fv 79 23, fv 79 24, fv 79 25, fv 79 34, fv 79 36, 99] f f1) f1_5))) (hh_7 : (pdI (f1 99) (f1 (fv 79 36) 0)) = List.replicate kk_4 10 ++ (pdI (f1 99) (f1_5 (fv 79 36) 0))) (hh_8 : (sl (rcd f1_5) 400 (400 + f1_5 (fv 79 33) 0)) = (sl (rcd (mx [97, 98, fv 79 33, fv 79 22, fv 79 23, fv 79 24, fv 79 25, fv 79 34, fv 79 36, 99] f f1)) 400 (400 + (f1 (fv 79 33) 0))) ++ List.replicate kk_4 (enc 10 0)) (hh_9 : f1_5 (fv 79 33) 0 = (f1 (fv 79 33) 0) + kk_4 ∧ f1_5 (fv 79 36) 0 = (f1 (fv 79 36) 0) - kk_4 ∧ 0 ≤ f1_5 (fv 79 36) 0) (hh_10 : ¬ hdv (pdI (f1 99) (f1_5 (fv 79 36) 0)) = 10) (hh_11 : (10 = 9 → f1_5 (fv 79 34) 0 = (f1 (fv 79 34) 0) - kk_4) ∧ (¬ 10 = 9 → f1_5 (fv 79 34) 0 = (f1 (fv 79 34) 0))) (hh_12 : (dfr (mx [97, 98, fv 79 33, fv 79 22, fv 79 23, fv 79 24, fv 79 25, fv 79 34, fv 79 36, 99] f f1)) f1_5) => ?_))
        have ha1 := hh_6
        have ha2 := hh_7
        have ha3 := hh_8
        have ha4 := hh_9
        have ha5 := hh_10
        have ha6 := hh_11
        have ha7 := hh_12
        have hap : pok (pdI (f1 99) (f1_5 (fv 79 36) 0)) := rp_pok _ (by rw [← ha2]; exact hP.2)
        have hac : c12 (pdI (f1 99) (f1_5 (fv 79 36) 0)) = c12 (pdI (f1 99) (f1 (fv 79 36) 0)) := by rw [ha2, rp_c12 (by decide)]
        have hao : opn (pdI (f1 99) (f1_5 (fv 79 36) 0)) = opn (pdI (f1 99) (f1 (fv 79 36) 0)) := by rw [ha2, rp_opn (by decide)]
        have ha9 : ¬ hdv (pdI (f1 99) (f1_5 (fv 79 36) 0)) = 9 := rp_h10 _ (by rw [← ha2]; exact hP.2) (by rw [← ha2]; exact (h9 (by omega)))
        refine hO (c_waits (by omega) (show 0 ≤ (f1_5 (fv 79 36) 0) ∧ (f1_5 (fv 79 36) 0) < 40 from by omega) ?_)
        refine hO (c_next (by omega) (show (rdR (mx [97, 98, fv 79 33, fv 79 34, fv 79 36] (mx [97, 98, fv 79 33, fv 79 22, fv 79 23, fv 79 24, fv 79 25, fv 79 34, fv 79 36, 99] f f1) f1_5)) from ha1) (fun f1_13 (hh_14 :  (rdR (mx [fv 79 22, fv 79 23, fv 79 24, fv 79 25] (mx [97, 98, fv 79 33, fv 79 34, fv 79 36] (mx [97, 98, fv 79 33, fv 79 22, fv 79 23, fv 79 24, fv 79 25, fv 79 34, fv 79 36, 99] f f1) f1_5) f1_13))) (hh_15 : f1_13 (fv 79 23) 0 = (nxR f) (f1 (fv 79 23) 0)) => ?_))
        have hn1 := hh_14
        have hn2 := hh_15
        have hnb : 0 ≤ f1_13 (fv 79 23) 0 ∧ f1_13 (fv 79 23) 0 ≤ f (fv 79 21) 0 := ⟨(rdR_b hh_14).1, (rdR_b hh_14).2.1⟩
        have hPn : pdI ((mx [fv 79 22, fv 79 23, fv 79 24, fv 79 25] (wv (wv (mx [97, 98, fv 79 33, fv 79 34, fv 79 36] f1 f1_5) 99 (f1_5 (fv 79 36) 0) 10) (fv 79 36) 0 ((f1_5 (fv 79 36) 0) + 1)) f1_13) 99) ((mx [fv 79 22, fv 79 23, fv 79 24, fv 79 25] (wv (wv (mx [97, 98, fv 79 33, fv 79 34, fv 79 36] f1 f1_5) 99 (f1_5 (fv 79 36) 0) 10) (fv 79 36) 0 ((f1_5 (fv 79 36) 0) + 1)) f1_13) (fv 79 36) 0) = 10 :: pdI (f1 99) (f1_5 (fv 79 36) 0) := by
          show pdI (wv f1 99 (f1_5 (fv 79 36) 0) 10 99) (f1_5 (fv 79 36) 0 + 1) = _
          rw [wv_up, pdI_up (by omega)]
        have qp : (mx [fv 79 22, fv 79 23, fv 79 24, fv 79 25] (wv (wv (mx [97, 98, fv 79 33, fv 79 34, fv 79 36] f1 f1_5) 99 (f1_5 (fv 79 36) 0) 10) (fv 79 36) 0 ((f1_5 (fv 79 36) 0) + 1)) f1_13) (fv 79 36) 0 = f1_5 (fv 79 36) 0 + 1 := rfl
        have qz : (mx [fv 79 22, fv 79 23, fv 79 24, fv 79 25] (wv (wv (mx [97, 98, fv 79 33, fv 79 34, fv 79 36] f1 f1_5) 99 (f1_5 (fv 79 36) 0) 10) (fv 79 36) 0 ((f1_5 (fv 79 36) 0) + 1)) f1_13) (fv 79 33) 0 = f1_5 (fv 79 33) 0 := rfl
        have qf : (mx [fv 79 22, fv 79 23, fv 79 24, fv 79 25] (wv (wv (mx [97, 98, fv 79 33, fv 79 34, fv 79 36] f1 f1_5) 99 (f1_5 (fv 79 36) 0) 10) (fv 79 36) 0 ((f1_5 (fv 79 36) 0) + 1)) f1_13) (fv 79 23) 0 = _ := hn2
        have qn := hcn (by omega)
        clear hcn
        refine hB (401 - ((mx [fv 79 22, fv 79 23, fv 79 24, fv 79 25] (wv (wv (mx [97, 98, fv 79 33, fv 79 34, fv 79 36] f1 f1_5) 99 (f1_5 (fv 79 36) 0) 10) (fv 79 36) 0 ((f1_5 (fv 79 36) 0) + 1)) f1_13) (fv 79 23) 0) : Int).toNat ?_ ⟨rfl, br9, 1, (mx [fv 79 22, fv 79 23, fv 79 24, fv 79 25] (wv (wv (mx [97, 98, fv 79 33, fv 79 34, fv 79 36] f1 f1_5) 99 (f1_5 (fv 79 36) 0) 10) (fv 79 36) 0 ((f1_5 (fv 79 36) 0) + 1)) f1_13), rfl, rfl, (mx_mx rfl (mx_wv rfl (mx_wv rfl (mx_mx rfl rfl)))), rfl, ?_, ?_, ?_, ?_, ?_, ?_, ?_, ?_, ?_, ?_, ?_⟩
        · omega
        · exact hn1
        · rw [hPn]
          exact ⟨by omega, pok_10 hap ha9 ha5⟩
        · rw [hPn]
          rw [c12_n (by decide)]; omega
        · rw [hPn]
          have q6 := ha6.2 (by decide)
          rw [opn10]
          exact ⟨by show f1_5 (fv 79 34) 0 = _; omega, by show f1_5 (fv 79 34) 0 ≤ 8; omega⟩
        · omega
        · intro h; omega
        · refine ⟨fun _ W => ?_, fun h => absurd h (by decide)⟩
          rw [hPn, qf]
          exact r_t (r_t (hR.2 (by omega) W) (an_10 ha2 ha3 ha5)) (q_11a (by omega))
        · omega
        · omega
        · exact dfr_t hdf ha7
        · omega
      · refine ⟨fun _ => ?_, fun h => absurd (show (0 : Int) = 0 from by decide) h⟩
        refine hO (c_isWordK (by omega) (show (rdR (mx [97, 98, fv 79 33, fv 79 22, fv 79 23, fv 79 24, fv 79 25, fv 79 34, fv 79 36, 99] f f1)) from hrd1) (show 0 ≤ 2 ∧ 2 ≤ 13 from by decide) (fun (hh_16 : (kdR f) (f1 (fv 79 23) 0) = 2 + 3) => ?_) (fun (hh_17 : ¬ (kdR f) (f1 (fv 79 23) 0) = 2 + 3) => ?_))
        · refine ⟨fun h => absurd (show (1 : Int) = 0 from h) (by decide), fun _ => ?_⟩
          refine hO (c_settles (by omega) (show (rdR (mx [97, 98, fv 79 33, fv 79 22, fv 79 23, fv 79 24, fv 79 25, fv 79 34, fv 79 36, 99] f f1)) from hrd1) (show (f1 (fv 79 33) 0) + (f1 (fv 79 36) 0) ≤ 400 from by omega) (show 0 ≤ (f1 (fv 79 36) 0) ∧ (f1 (fv 79 36) 0) ≤ 40 from by omega) (show 9 ≤ 10 ∧ 10 ≤ 11 from by decide) (show 10 = 9 → 0 ≤ (f1 (fv 79 34) 0) ∧ (f1 (fv 79 34) 0) ≤ 100 from fun h => absurd h (by decide)) (fun kk_18 f1_19 (hh_20 :  (rdR (mx [97, 98, fv 79 33, fv 79 34, fv 79 36] (mx [97, 98, fv 79 33, fv 79 22, fv 79 23, fv 79 24, fv 79 25, fv 79 34, fv 79 36, 99] f f1) f1_19))) (hh_21 : (pdI (f1 99) (f1 (fv 79 36) 0)) = List.replicate kk_18 10 ++ (pdI (f1 99) (f1_19 (fv 79 36) 0))) (hh_22 : (sl (rcd f1_19) 400 (400 + f1_19 (fv 79 33) 0)) = (sl (rcd (mx [97, 98, fv 79 33, fv 79 22, fv 79 23, fv 79 24, fv 79 25, fv 79 34, fv 79 36, 99] f f1)) 400 (400 + (f1 (fv 79 33) 0))) ++ List.replicate kk_18 (enc 10 0)) (hh_23 : f1_19 (fv 79 33) 0 = (f1 (fv 79 33) 0) + kk_18 ∧ f1_19 (fv 79 36) 0 = (f1 (fv 79 36) 0) - kk_18 ∧ 0 ≤ f1_19 (fv 79 36) 0) (hh_24 : ¬ hdv (pdI (f1 99) (f1_19 (fv 79 36) 0)) = 10) (hh_25 : (10 = 9 → f1_19 (fv 79 34) 0 = (f1 (fv 79 34) 0) - kk_18) ∧ (¬ 10 = 9 → f1_19 (fv 79 34) 0 = (f1 (fv 79 34) 0))) (hh_26 : (dfr (mx [97, 98, fv 79 33, fv 79 22, fv 79 23, fv 79 24, fv 79 25, fv 79 34, fv 79 36, 99] f f1)) f1_19) => ?_))
          have ha1 := hh_20
          have ha2 := hh_21
          have ha3 := hh_22
          have ha4 := hh_23
          have ha5 := hh_24
          have ha6 := hh_25
          have ha7 := hh_26
          have hap : pok (pdI (f1 99) (f1_19 (fv 79 36) 0)) := rp_pok _ (by rw [← ha2]; exact hP.2)
          have hac : c12 (pdI (f1 99) (f1_19 (fv 79 36) 0)) = c12 (pdI (f1 99) (f1 (fv 79 36) 0)) := by rw [ha2, rp_c12 (by decide)]
          have hao : opn (pdI (f1 99) (f1_19 (fv 79 36) 0)) = opn (pdI (f1 99) (f1 (fv 79 36) 0)) := by rw [ha2, rp_opn (by decide)]
          have ha9 : ¬ hdv (pdI (f1 99) (f1_19 (fv 79 36) 0)) = 9 := rp_h10 _ (by rw [← ha2]; exact hP.2) (by rw [← ha2]; exact (h9 (by omega)))
          refine hO (c_settles (by omega) (show (rdR (mx [97, 98, fv 79 33, fv 79 34, fv 79 36] (mx [97, 98, fv 79 33, fv 79 22, fv 79 23, fv 79 24, fv 79 25, fv 79 34, fv 79 36, 99] f f1) f1_19)) from ha1) (show (f1_19 (fv 79 33) 0) + (f1_19 (fv 79 36) 0) ≤ 400 from by omega) (show 0 ≤ (f1_19 (fv 79 36) 0) ∧ (f1_19 (fv 79 36) 0) ≤ 40 from by omega) (show 9 ≤ 11 ∧ 11 ≤ 11 from by decide) (show 11 = 9 → 0 ≤ (f1_19 (fv 79 34) 0) ∧ (f1_19 (fv 79 34) 0) ≤ 100 from fun h => absurd h (by decide)) (fun kk_27 f1_28 (hh_29 :  (rdR (mx [97, 98, fv 79 33, fv 79 34, fv 79 36] (mx [97, 98, fv 79 33, fv 79 34, fv 79 36] (mx [97, 98, fv 79 33, fv 79 22, fv 79 23, fv 79 24, fv 79 25, fv 79 34, fv 79 36, 99] f f1) f1_19) f1_28))) (hh_30 : (pdI (f1 99) (f1_19 (fv 79 36) 0)) = List.replicate kk_27 11 ++ (pdI (f1 99) (f1_28 (fv 79 36) 0))) (hh_31 : (sl (rcd f1_28) 400 (400 + f1_28 (fv 79 33) 0)) = (sl (rcd (mx [97, 98, fv 79 33, fv 79 34, fv 79 36] (mx [97, 98, fv 79 33, fv 79 22, fv 79 23, fv 79 24, fv 79 25, fv 79 34, fv 79 36, 99] f f1) f1_19)) 400 (400 + (f1_19 (fv 79 33) 0))) ++ List.replicate kk_27 (enc 11 0)) (hh_32 : f1_28 (fv 79 33) 0 = (f1_19 (fv 79 33) 0) + kk_27 ∧ f1_28 (fv 79 36) 0 = (f1_19 (fv 79 36) 0) - kk_27 ∧ 0 ≤ f1_28 (fv 79 36) 0) (hh_33 : ¬ hdv (pdI (f1 99) (f1_28 (fv 79 36) 0)) = 11) (hh_34 : (11 = 9 → f1_28 (fv 79 34) 0 = (f1_19 (fv 79 34) 0) - kk_27) ∧ (¬ 11 = 9 → f1_28 (fv 79 34) 0 = (f1_19 (fv 79 34) 0))) (hh_35 : (dfr (mx [97, 98, fv 79 33, fv 79 34, fv 79 36] (mx [97, 98, fv 79 33, fv 79 22, fv 79 23, fv 79 24, fv 79 25, fv 79 34, fv 79 36, 99] f f1) f1_19)) f1_28) => ?_))
          have hb1 := hh_29
          have hb2 := hh_30
          have hb3 := hh_31
          have hb4 := hh_32
          have hb5 := hh_33
          have hb6 := hh_34
          have hb7 := hh_35
          have hbp : pok (pdI (f1 99) (f1_28 (fv 79 36) 0)) := rp_pok _ (by rw [← hb2]; exact hap)
          have hbc : c12 (pdI (f1 99) (f1_28 (fv 79 36) 0)) = c12 (pdI (f1 99) (f1_19 (fv 79 36) 0)) := by rw [hb2, rp_c12 (by decide)]
          have hbo : opn (pdI (f1 99) (f1_28 (fv 79 36) 0)) = opn (pdI (f1 99) (f1_19 (fv 79 36) 0)) := by rw [hb2, rp_opn (by decide)]
          have hb9 := rp_h11 _ (by rw [← hb2]; exact hap) (by rw [← hb2]; exact ha9) (by rw [← hb2]; exact ha5)
          refine hO (c_waits (by omega) (show 0 ≤ (f1_28 (fv 79 36) 0) ∧ (f1_28 (fv 79 36) 0) < 40 from by omega) ?_)
          refine hO (c_next (by omega) (show (rdR (mx [97, 98, fv 79 33, fv 79 34, fv 79 36] (mx [97, 98, fv 79 33, fv 79 34, fv 79 36] (mx [97, 98, fv 79 33, fv 79 22, fv 79 23, fv 79 24, fv 79 25, fv 79 34, fv 79 36, 99] f f1) f1_19) f1_28)) from hb1) (fun f1_36 (hh_37 :  (rdR (mx [fv 79 22, fv 79 23, fv 79 24, fv 79 25] (mx [97, 98, fv 79 33, fv 79 34, fv 79 36] (mx [97, 98, fv 79 33, fv 79 34, fv 79 36] (mx [97, 98, fv 79 33, fv 79 22, fv 79 23, fv 79 24, fv 79 25, fv 79 34, fv 79 36, 99] f f1) f1_19) f1_28) f1_36))) (hh_38 : f1_36 (fv 79 23) 0 = (nxR f) (f1 (fv 79 23) 0)) => ?_))
          have hn1 := hh_37
          have hn2 := hh_38
          have hnb : 0 ≤ f1_36 (fv 79 23) 0 ∧ f1_36 (fv 79 23) 0 ≤ f (fv 79 21) 0 := ⟨(rdR_b hh_37).1, (rdR_b hh_37).2.1⟩
          have hPn : pdI ((mx [fv 79 22, fv 79 23, fv 79 24, fv 79 25] (wv (wv (mx [97, 98, fv 79 33, fv 79 34, fv 79 36] (mx [97, 98, fv 79 33, fv 79 34, fv 79 36] f1 f1_19) f1_28) 99 (f1_28 (fv 79 36) 0) 11) (fv 79 36) 0 ((f1_28 (fv 79 36) 0) + 1)) f1_36) 99) ((mx [fv 79 22, fv 79 23, fv 79 24, fv 79 25] (wv (wv (mx [97, 98, fv 79 33, fv 79 34, fv 79 36] (mx [97, 98, fv 79 33, fv 79 34, fv 79 36] f1 f1_19) f1_28) 99 (f1_28 (fv 79 36) 0) 11) (fv 79 36) 0 ((f1_28 (fv 79 36) 0) + 1)) f1_36) (fv 79 36) 0) = 11 :: pdI (f1 99) (f1_28 (fv 79 36) 0) := by
            show pdI (wv f1 99 (f1_28 (fv 79 36) 0) 11 99) (f1_28 (fv 79 36) 0 + 1) = _
            rw [wv_up, pdI_up (by omega)]
          have qp : (mx [fv 79 22, fv 79 23, fv 79 24, fv 79 25] (wv (wv (mx [97, 98, fv 79 33, fv 79 34, fv 79 36] (mx [97, 98, fv 79 33, fv 79 34, fv 79 36] f1 f1_19) f1_28) 99 (f1_28 (fv 79 36) 0) 11) (fv 79 36) 0 ((f1_28 (fv 79 36) 0) + 1)) f1_36) (fv 79 36) 0 = f1_28 (fv 79 36) 0 + 1 := rfl
          have qz : (mx [fv 79 22, fv 79 23, fv 79 24, fv 79 25] (wv (wv (mx [97, 98, fv 79 33, fv 79 34, fv 79 36] (mx [97, 98, fv 79 33, fv 79 34, fv 79 36] f1 f1_19) f1_28) 99 (f1_28 (fv 79 36) 0) 11) (fv 79 36) 0 ((f1_28 (fv 79 36) 0) + 1)) f1_36) (fv 79 33) 0 = f1_28 (fv 79 33) 0 := rfl
          have qf : (mx [fv 79 22, fv 79 23, fv 79 24, fv 79 25] (wv (wv (mx [97, 98, fv 79 33, fv 79 34, fv 79 36] (mx [97, 98, fv 79 33, fv 79 34, fv 79 36] f1 f1_19) f1_28) 99 (f1_28 (fv 79 36) 0) 11) (fv 79 36) 0 ((f1_28 (fv 79 36) 0) + 1)) f1_36) (fv 79 23) 0 = _ := hn2
          have qn := hcn (by omega)
          clear hcn
          refine hB (401 - ((mx [fv 79 22, fv 79 23, fv 79 24, fv 79 25] (wv (wv (mx [97, 98, fv 79 33, fv 79 34, fv 79 36] (mx [97, 98, fv 79 33, fv 79 34, fv 79 36] f1 f1_19) f1_28) 99 (f1_28 (fv 79 36) 0) 11) (fv 79 36) 0 ((f1_28 (fv 79 36) 0) + 1)) f1_36) (fv 79 23) 0) : Int).toNat ?_ ⟨rfl, br9, 1, (mx [fv 79 22, fv 79 23, fv 79 24, fv 79 25] (wv (wv (mx [97, 98, fv 79 33, fv 79 34, fv 79 36] (mx [97, 98, fv 79 33, fv 79 34, fv 79 36] f1 f1_19) f1_28) 99 (f1_28 (fv 79 36) 0) 11) (fv 79 36) 0 ((f1_28 (fv 79 36) 0) + 1)) f1_36), rfl, rfl, (mx_mx rfl (mx_wv rfl (mx_wv rfl (mx_mx rfl (mx_mx rfl rfl))))), rfl, ?_, ?_, ?_, ?_, ?_, ?_, ?_, ?_, ?_, ?_, ?_⟩
          · omega
          · exact hn1
          · rw [hPn]
            exact ⟨by omega, pok_11 hbp hb9.1 hb9.2 hb5⟩
          · rw [hPn]
            rw [c12_n (by decide)]; omega
          · rw [hPn]
            rw [opn11]
            have q1 := ha6.2 (by decide)
            have q2 := hb6.2 (by decide)
            exact ⟨by show f1_28 (fv 79 34) 0 = _; omega, by show f1_28 (fv 79 34) 0 ≤ 8; omega⟩
          · omega
          · intro h; omega
          · refine ⟨fun _ W => ?_, fun h => absurd h (by decide)⟩
            rw [hPn, qf]
            exact r_t (r_t (r_t (hR.2 (by omega) W) (an_10 ha2 ha3 ha5)) (q_11e (by omega))) (r_t (an_11 hb2 hb3 hb5) (q_13o (by omega)))
          · omega
          · omega
          · exact dfr_t (dfr_t hdf ha7) hb7
          · omega
        · refine ⟨fun _ => ?_, fun h => absurd (show (0 : Int) = 0 from by decide) h⟩
          refine hO (c_settles (by omega) (show (rdR (mx [97, 98, fv 79 33, fv 79 22, fv 79 23, fv 79 24, fv 79 25, fv 79 34, fv 79 36, 99] f f1)) from hrd1) (show (f1 (fv 79 33) 0) + (f1 (fv 79 36) 0) ≤ 400 from by omega) (show 0 ≤ (f1 (fv 79 36) 0) ∧ (f1 (fv 79 36) 0) ≤ 40 from by omega) (show 9 ≤ 10 ∧ 10 ≤ 11 from by decide) (show 10 = 9 → 0 ≤ (f1 (fv 79 34) 0) ∧ (f1 (fv 79 34) 0) ≤ 100 from fun h => absurd h (by decide)) (fun kk_39 f1_40 (hh_41 :  (rdR (mx [97, 98, fv 79 33, fv 79 34, fv 79 36] (mx [97, 98, fv 79 33, fv 79 22, fv 79 23, fv 79 24, fv 79 25, fv 79 34, fv 79 36, 99] f f1) f1_40))) (hh_42 : (pdI (f1 99) (f1 (fv 79 36) 0)) = List.replicate kk_39 10 ++ (pdI (f1 99) (f1_40 (fv 79 36) 0))) (hh_43 : (sl (rcd f1_40) 400 (400 + f1_40 (fv 79 33) 0)) = (sl (rcd (mx [97, 98, fv 79 33, fv 79 22, fv 79 23, fv 79 24, fv 79 25, fv 79 34, fv 79 36, 99] f f1)) 400 (400 + (f1 (fv 79 33) 0))) ++ List.replicate kk_39 (enc 10 0)) (hh_44 : f1_40 (fv 79 33) 0 = (f1 (fv 79 33) 0) + kk_39 ∧ f1_40 (fv 79 36) 0 = (f1 (fv 79 36) 0) - kk_39 ∧ 0 ≤ f1_40 (fv 79 36) 0) (hh_45 : ¬ hdv (pdI (f1 99) (f1_40 (fv 79 36) 0)) = 10) (hh_46 : (10 = 9 → f1_40 (fv 79 34) 0 = (f1 (fv 79 34) 0) - kk_39) ∧ (¬ 10 = 9 → f1_40 (fv 79 34) 0 = (f1 (fv 79 34) 0))) (hh_47 : (dfr (mx [97, 98, fv 79 33, fv 79 22, fv 79 23, fv 79 24, fv 79 25, fv 79 34, fv 79 36, 99] f f1)) f1_40) => ?_))
          have ha1 := hh_41
          have ha2 := hh_42
          have ha3 := hh_43
          have ha4 := hh_44
          have ha5 := hh_45
          have ha6 := hh_46
          have ha7 := hh_47
          have hap : pok (pdI (f1 99) (f1_40 (fv 79 36) 0)) := rp_pok _ (by rw [← ha2]; exact hP.2)
          have hac : c12 (pdI (f1 99) (f1_40 (fv 79 36) 0)) = c12 (pdI (f1 99) (f1 (fv 79 36) 0)) := by rw [ha2, rp_c12 (by decide)]
          have hao : opn (pdI (f1 99) (f1_40 (fv 79 36) 0)) = opn (pdI (f1 99) (f1 (fv 79 36) 0)) := by rw [ha2, rp_opn (by decide)]
          have ha9 : ¬ hdv (pdI (f1 99) (f1_40 (fv 79 36) 0)) = 9 := rp_h10 _ (by rw [← ha2]; exact hP.2) (by rw [← ha2]; exact (h9 (by omega)))
          refine hO (c_settles (by omega) (show (rdR (mx [97, 98, fv 79 33, fv 79 34, fv 79 36] (mx [97, 98, fv 79 33, fv 79 22, fv 79 23, fv 79 24, fv 79 25, fv 79 34, fv 79 36, 99] f f1) f1_40)) from ha1) (show (f1_40 (fv 79 33) 0) + (f1_40 (fv 79 36) 0) ≤ 400 from by omega) (show 0 ≤ (f1_40 (fv 79 36) 0) ∧ (f1_40 (fv 79 36) 0) ≤ 40 from by omega) (show 9 ≤ 11 ∧ 11 ≤ 11 from by decide) (show 11 = 9 → 0 ≤ (f1_40 (fv 79 34) 0) ∧ (f1_40 (fv 79 34) 0) ≤ 100 from fun h => absurd h (by decide)) (fun kk_48 f1_49 (hh_50 :  (rdR (mx [97, 98, fv 79 33, fv 79 34, fv 79 36] (mx [97, 98, fv 79 33, fv 79 34, fv 79 36] (mx [97, 98, fv 79 33, fv 79 22, fv 79 23, fv 79 24, fv 79 25, fv 79 34, fv 79 36, 99] f f1) f1_40) f1_49))) (hh_51 : (pdI (f1 99) (f1_40 (fv 79 36) 0)) = List.replicate kk_48 11 ++ (pdI (f1 99) (f1_49 (fv 79 36) 0))) (hh_52 : (sl (rcd f1_49) 400 (400 + f1_49 (fv 79 33) 0)) = (sl (rcd (mx [97, 98, fv 79 33, fv 79 34, fv 79 36] (mx [97, 98, fv 79 33, fv 79 22, fv 79 23, fv 79 24, fv 79 25, fv 79 34, fv 79 36, 99] f f1) f1_40)) 400 (400 + (f1_40 (fv 79 33) 0))) ++ List.replicate kk_48 (enc 11 0)) (hh_53 : f1_49 (fv 79 33) 0 = (f1_40 (fv 79 33) 0) + kk_48 ∧ f1_49 (fv 79 36) 0 = (f1_40 (fv 79 36) 0) - kk_48 ∧ 0 ≤ f1_49 (fv 79 36) 0) (hh_54 : ¬ hdv (pdI (f1 99) (f1_49 (fv 79 36) 0)) = 11) (hh_55 : (11 = 9 → f1_49 (fv 79 34) 0 = (f1_40 (fv 79 34) 0) - kk_48) ∧ (¬ 11 = 9 → f1_49 (fv 79 34) 0 = (f1_40 (fv 79 34) 0))) (hh_56 : (dfr (mx [97, 98, fv 79 33, fv 79 34, fv 79 36] (mx [97, 98, fv 79 33, fv 79 22, fv 79 23, fv 79 24, fv 79 25, fv 79 34, fv 79 36, 99] f f1) f1_40)) f1_49) => ?_))
          have hb1 := hh_50
          have hb2 := hh_51
          have hb3 := hh_52
          have hb4 := hh_53
          have hb5 := hh_54
          have hb6 := hh_55
          have hb7 := hh_56
          have hbp : pok (pdI (f1 99) (f1_49 (fv 79 36) 0)) := rp_pok _ (by rw [← hb2]; exact hap)
          have hbc : c12 (pdI (f1 99) (f1_49 (fv 79 36) 0)) = c12 (pdI (f1 99) (f1_40 (fv 79 36) 0)) := by rw [hb2, rp_c12 (by decide)]
          have hbo : opn (pdI (f1 99) (f1_49 (fv 79 36) 0)) = opn (pdI (f1 99) (f1_40 (fv 79 36) 0)) := by rw [hb2, rp_opn (by decide)]
          have hb9 := rp_h11 _ (by rw [← hb2]; exact hap) (by rw [← hb2]; exact ha9) (by rw [← hb2]; exact ha5)
          have hbo_ : f1_49 (fv 79 34) 0 = opn (pdI (f1 99) (f1_49 (fv 79 36) 0)) := by have q1 := ha6.2 (by decide); have q2 := hb6.2 (by decide); omega
          have hb1_ := hb1
          have hcase := pok_h hbp hb9.1 hb9.2 hb5
          refine ⟨fun (hh_57 : br9 = 0) => ?_, fun (hh_57 : ¬ br9 = 0) => ?_⟩
          · have hnil : pdI (f1 99) (f1_49 (fv 79 36) 0) = [] := by
              rcases hcase with q | ⟨R, q1, q2⟩
              · exact q.1
              · omega
            have hk := k0 ((mx [97, 98, fv 79 33, fv 79 34, fv 79 36] (mx [97, 98, fv 79 33, fv 79 34, fv 79 36] f1 f1_40) f1_49)) hb1_ (fun W => r_t (r_t (r_t (r_t (hR.2 (by omega) W) (an_10 ha2 ha3 ha5)) (q_11e (by omega))) (r_t (an_11 hb2 hb3 hb5) (q_13e (by omega)))) (by rw [hnil]; exact q_14b)) (by show f1_49 (fv 79 33) 0 - f1 (fv 79 23) 0 ≤ _; omega) hfp (dfr_t (dfr_t hdf ha7) hb7) (by show f1_49 (fv 79 34) 0 = 0; rw [hbo_]; rw [hnil]; rfl)
            rw [show mx [97, 98, fv 79 33, fv 79 22, fv 79 23, fv 79 24, fv 79 25, fv 79 34, fv 79 36, 99] f (mx [97, 98, fv 79 33, fv 79 34, fv 79 36] (mx [97, 98, fv 79 33, fv 79 34, fv 79 36] f1 f1_40) f1_49) = (mx [97, 98, fv 79 33, fv 79 34, fv 79 36] (mx [97, 98, fv 79 33, fv 79 34, fv 79 36] (mx [97, 98, fv 79 33, fv 79 22, fv 79 23, fv 79 24, fv 79 25, fv 79 34, fv 79 36, 99] f f1) f1_40) f1_49) from ((mx_mx rfl (mx_mx rfl rfl))).symm] at hk
            exact hk
          · have hpb : 0 < f1_49 (fv 79 36) 0 := by
              rcases hcase with q | ⟨R, q1, q2⟩
              · omega
              · have q3 := pdI_len (r := f1 99) hb4.2.2
                rw [q1, List.length_cons] at q3
                omega
            have hL12 : pdI (f1 99) (f1_49 (fv 79 36) 0) = 12 :: pdI (f1 99) (f1_49 (fv 79 36) 0 - 1) := by
              rcases hcase with q | ⟨R, q1, q2⟩
              · omega
              · rw [pdI_s hpb] at q1 ⊢
                rw [show f1 99 (f1_49 (fv 79 36) 0 - 1) = 12 from (List.cons.inj q1).1]
            have hpk : pok (pdI (f1 99) (f1_49 (fv 79 36) 0 - 1)) := by rw [hL12] at hbp; exact hbp.2.2.2
            have hck : c12 (pdI (f1 99) (f1_49 (fv 79 36) 0)) = c12 (pdI (f1 99) (f1_49 (fv 79 36) 0 - 1)) + 1 := by rw [hL12, c12_12]
            have hok : opn (pdI (f1 99) (f1_49 (fv 79 36) 0)) = opn (pdI (f1 99) (f1_49 (fv 79 36) 0 - 1)) + 1 := by rw [hL12, opn12]
            have hor := opn_r (pdI (f1 99) (f1_49 (fv 79 36) 0 - 1))
            refine hO (c_isSignK (by omega) (show (rdR (mx [97, 98, fv 79 33, fv 79 34, fv 79 36] (mx [97, 98, fv 79 33, fv 79 34, fv 79 36] (mx [97, 98, fv 79 33, fv 79 22, fv 79 23, fv 79 24, fv 79 25, fv 79 34, fv 79 36, 99] f f1) f1_40) f1_49)) from hb1) (show 40 ≤ 41 ∧ 41 ≤ 62 from by decide) (fun (hh_58 : (kdR f) (f1 (fv 79 23) 0) = 41) => ?_) (fun (hh_59 : ¬ (kdR f) (f1 (fv 79 23) 0) = 41) => ?_))
            · refine ⟨fun h => absurd (show (1 : Int) = 0 from h) (by decide), fun _ => ?_⟩
              refine Or.inl ⟨show inr ((f1_49 (fv 79 36) 0) - 1) from by constructor <;> omega, ?_⟩
              refine Or.inl ⟨show inr (br9 - 1) from by constructor <;> omega, ?_⟩
              refine Or.inl ⟨show inr ((f1_49 (fv 79 34) 0) - 1) from by constructor <;> omega, ?_⟩
              refine hO (c_settles (by omega) (show (rdR (mx [97, 98, fv 79 33, fv 79 34, fv 79 36] (mx [97, 98, fv 79 33, fv 79 34, fv 79 36] (mx [97, 98, fv 79 33, fv 79 22, fv 79 23, fv 79 24, fv 79 25, fv 79 34, fv 79 36, 99] f f1) f1_40) f1_49)) from hb1) (show (f1_49 (fv 79 33) 0) + (((f1_49 (fv 79 36) 0) - 1)) ≤ 400 from by omega) (show 0 ≤ (((f1_49 (fv 79 36) 0) - 1)) ∧ (((f1_49 (fv 79 36) 0) - 1)) ≤ 40 from by omega) (show 9 ≤ 9 ∧ 9 ≤ 11 from by decide) (show 9 = 9 → 0 ≤ (((f1_49 (fv 79 34) 0) - 1)) ∧ (((f1_49 (fv 79 34) 0) - 1)) ≤ 100 from fun _ => by omega) (fun kk_60 f1_61 (hh_62 :  (rdR (mx [97, 98, fv 79 33, fv 79 34, fv 79 36] (mx [97, 98, fv 79 33, fv 79 34, fv 79 36] (mx [97, 98, fv 79 33, fv 79 34, fv 79 36] (mx [97, 98, fv 79 33, fv 79 22, fv 79 23, fv 79 24, fv 79 25, fv 79 34, fv 79 36, 99] f f1) f1_40) f1_49) f1_61))) (hh_63 : (pdI (f1 99) (((f1_49 (fv 79 36) 0) - 1))) = List.replicate kk_60 9 ++ (pdI (f1 99) (f1_61 (fv 79 36) 0))) (hh_64 : (sl (rcd f1_61) 400 (400 + f1_61 (fv 79 33) 0)) = (sl (rcd (mx [97, 98, fv 79 33, fv 79 34, fv 79 36] (mx [97, 98, fv 79 33, fv 79 34, fv 79 36] (mx [97, 98, fv 79 33, fv 79 22, fv 79 23, fv 79 24, fv 79 25, fv 79 34, fv 79 36, 99] f f1) f1_40) f1_49)) 400 (400 + (f1_49 (fv 79 33) 0))) ++ List.replicate kk_60 (enc 9 0)) (hh_65 : f1_61 (fv 79 33) 0 = (f1_49 (fv 79 33) 0) + kk_60 ∧ f1_61 (fv 79 36) 0 = (((f1_49 (fv 79 36) 0) - 1)) - kk_60 ∧ 0 ≤ f1_61 (fv 79 36) 0) (hh_66 : ¬ hdv (pdI (f1 99) (f1_61 (fv 79 36) 0)) = 9) (hh_67 : (9 = 9 → f1_61 (fv 79 34) 0 = (((f1_49 (fv 79 34) 0) - 1)) - kk_60) ∧ (¬ 9 = 9 → f1_61 (fv 79 34) 0 = (((f1_49 (fv 79 34) 0) - 1)))) (hh_68 : (dfr (mx [97, 98, fv 79 33, fv 79 34, fv 79 36] (mx [97, 98, fv 79 33, fv 79 34, fv 79 36] (mx [97, 98, fv 79 33, fv 79 22, fv 79 23, fv 79 24, fv 79 25, fv 79 34, fv 79 36, 99] f f1) f1_40) f1_49)) f1_61) => ?_))
              have hc1 := hh_62
              have hc2 := hh_63
              have hc3 := hh_64
              have hc4 := hh_65
              have hc5 := hh_66
              have hc6 := hh_67
              have hc7 := hh_68
              have hcp : pok (pdI (f1 99) (f1_61 (fv 79 36) 0)) := rp_pok _ (by rw [← hc2]; exact hpk)
              have hcc : c12 (pdI (f1 99) (f1_61 (fv 79 36) 0)) = c12 (pdI (f1 99) (f1_49 (fv 79 36) 0 - 1)) := by rw [hc2, rp_c12 (by decide)]
              have hco : opn (pdI (f1 99) (f1_49 (fv 79 36) 0 - 1)) = opn (pdI (f1 99) (f1_61 (fv 79 36) 0)) + kk_60 := by rw [hc2, rp_opn9]
              refine hO (c_next (by omega) (show (rdR (mx [97, 98, fv 79 33, fv 79 34, fv 79 36] (mx [97, 98, fv 79 33, fv 79 34, fv 79 36] (mx [97, 98, fv 79 33, fv 79 34, fv 79 36] (mx [97, 98, fv 79 33, fv 79 22, fv 79 23, fv 79 24, fv 79 25, fv 79 34, fv 79 36, 99] f f1) f1_40) f1_49) f1_61)) from hc1) (fun f1_69 (hh_70 :  (rdR (mx [fv 79 22, fv 79 23, fv 79 24, fv 79 25] (mx [97, 98, fv 79 33, fv 79 34, fv 79 36] (mx [97, 98, fv 79 33, fv 79 34, fv 79 36] (mx [97, 98, fv 79 33, fv 79 34, fv 79 36] (mx [97, 98, fv 79 33, fv 79 22, fv 79 23, fv 79 24, fv 79 25, fv 79 34, fv 79 36, 99] f f1) f1_40) f1_49) f1_61) f1_69))) (hh_71 : f1_69 (fv 79 23) 0 = (nxR f) (f1 (fv 79 23) 0)) => ?_))
              have hn1 := hh_70
              have hn2 := hh_71
              have hnb : 0 ≤ f1_69 (fv 79 23) 0 ∧ f1_69 (fv 79 23) 0 ≤ f (fv 79 21) 0 := ⟨(rdR_b hh_70).1, (rdR_b hh_70).2.1⟩
              have hPn : pdI ((mx [fv 79 22, fv 79 23, fv 79 24, fv 79 25] (mx [97, 98, fv 79 33, fv 79 34, fv 79 36] (wv (wv (mx [97, 98, fv 79 33, fv 79 34, fv 79 36] (mx [97, 98, fv 79 33, fv 79 34, fv 79 36] f1 f1_40) f1_49) (fv 79 36) 0 ((f1_49 (fv 79 36) 0) - 1)) (fv 79 34) 0 ((f1_49 (fv 79 34) 0) - 1)) f1_61) f1_69) 99) ((mx [fv 79 22, fv 79 23, fv 79 24, fv 79 25] (mx [97, 98, fv 79 33, fv 79 34, fv 79 36] (wv (wv (mx [97, 98, fv 79 33, fv 79 34, fv 79 36] (mx [97, 98, fv 79 33, fv 79 34, fv 79 36] f1 f1_40) f1_49) (fv 79 36) 0 ((f1_49 (fv 79 36) 0) - 1)) (fv 79 34) 0 ((f1_49 (fv 79 34) 0) - 1)) f1_61) f1_69) (fv 79 36) 0) = pdI (f1 99) (f1_61 (fv 79 36) 0) := rfl
              have qp : (mx [fv 79 22, fv 79 23, fv 79 24, fv 79 25] (mx [97, 98, fv 79 33, fv 79 34, fv 79 36] (wv (wv (mx [97, 98, fv 79 33, fv 79 34, fv 79 36] (mx [97, 98, fv 79 33, fv 79 34, fv 79 36] f1 f1_40) f1_49) (fv 79 36) 0 ((f1_49 (fv 79 36) 0) - 1)) (fv 79 34) 0 ((f1_49 (fv 79 34) 0) - 1)) f1_61) f1_69) (fv 79 36) 0 = f1_61 (fv 79 36) 0 := rfl
              have qz : (mx [fv 79 22, fv 79 23, fv 79 24, fv 79 25] (mx [97, 98, fv 79 33, fv 79 34, fv 79 36] (wv (wv (mx [97, 98, fv 79 33, fv 79 34, fv 79 36] (mx [97, 98, fv 79 33, fv 79 34, fv 79 36] f1 f1_40) f1_49) (fv 79 36) 0 ((f1_49 (fv 79 36) 0) - 1)) (fv 79 34) 0 ((f1_49 (fv 79 34) 0) - 1)) f1_61) f1_69) (fv 79 33) 0 = f1_61 (fv 79 33) 0 := rfl
              have qf : (mx [fv 79 22, fv 79 23, fv 79 24, fv 79 25] (mx [97, 98, fv 79 33, fv 79 34, fv 79 36] (wv (wv (mx [97, 98, fv 79 33, fv 79 34, fv 79 36] (mx [97, 98, fv 79 33, fv 79 34, fv 79 36] f1 f1_40) f1_49) (fv 79 36) 0 ((f1_49 (fv 79 36) 0) - 1)) (fv 79 34) 0 ((f1_49 (fv 79 34) 0) - 1)) f1_61) f1_69) (fv 79 23) 0 = _ := hn2
              have qn := hcn (by omega)
              clear hcn
              refine hB (401 - ((mx [fv 79 22, fv 79 23, fv 79 24, fv 79 25] (mx [97, 98, fv 79 33, fv 79 34, fv 79 36] (wv (wv (mx [97, 98, fv 79 33, fv 79 34, fv 79 36] (mx [97, 98, fv 79 33, fv 79 34, fv 79 36] f1 f1_40) f1_49) (fv 79 36) 0 ((f1_49 (fv 79 36) 0) - 1)) (fv 79 34) 0 ((f1_49 (fv 79 34) 0) - 1)) f1_61) f1_69) (fv 79 23) 0) : Int).toNat ?_ ⟨rfl, (br9 - 1), du9, (mx [fv 79 22, fv 79 23, fv 79 24, fv 79 25] (mx [97, 98, fv 79 33, fv 79 34, fv 79 36] (wv (wv (mx [97, 98, fv 79 33, fv 79 34, fv 79 36] (mx [97, 98, fv 79 33, fv 79 34, fv 79 36] f1 f1_40) f1_49) (fv 79 36) 0 ((f1_49 (fv 79 36) 0) - 1)) (fv 79 34) 0 ((f1_49 (fv 79 34) 0) - 1)) f1_61) f1_69), rfl, rfl, (mx_mx rfl (mx_mx rfl (mx_wv rfl (mx_wv rfl (mx_mx rfl (mx_mx rfl rfl)))))), rfl, ?_, ?_, ?_, ?_, ?_, ?_, ?_, ?_, ?_, ?_, ?_⟩
              · omega
              · exact hn1
              · rw [hPn]
                exact ⟨by omega, hcp⟩
              · rw [hPn]
                omega
              · rw [hPn]
                have q6 := hc6.1 rfl
                exact ⟨by show f1_61 (fv 79 34) 0 = _; omega, by show f1_61 (fv 79 34) 0 ≤ 8; omega⟩
              · omega
              · intro _; rw [hPn]; exact hc5
              · refine ⟨fun h => absurd h (by omega), fun _ W => ?_⟩
                rw [hPn, qf]
                refine r_t (r_t (r_t (hR.2 (by omega) W) (an_10 ha2 ha3 ha5)) (q_11e (by omega))) (r_t (r_t (an_11 hb2 hb3 hb5) (q_13e (by omega))) ?_)
                rw [hL12]
                exact r_t (q_14c (x := 12) (by decide) (by omega)) (an_9 hc2 hc3 hc5)
              · omega
              · omega
              · exact dfr_t (dfr_t (dfr_t hdf ha7) hb7) hc7
              · omega
            · refine ⟨fun _ => ?_, fun h => absurd (show (0 : Int) = 0 from by decide) h⟩
              refine hO (c_errs (by omega) ?_)
              have hk := k1 ((wv (wv (mx [97, 98, fv 79 33, fv 79 34, fv 79 36] (mx [97, 98, fv 79 33, fv 79 34, fv 79 36] (mx [97, 98, fv 79 33, fv 79 22, fv 79 23, fv 79 24, fv 79 25, fv 79 34, fv 79 36, 99] f f1) f1_40) f1_49) (fv 79 37) 0 1) (fv 79 38) 0 (f1 (fv 79 23) 0))) (fun W => flt_r (r_t (r_t (r_t (hR.2 (by omega) W) (an_10 ha2 ha3 ha5)) (q_11e (by omega))) (r_t (an_11 hb2 hb3 hb5) (q_13e (by omega)))) (by rw [hL12]; exact flt_0 (q_14f (x := 12) (by decide) (show ¬ kdR f (f1 (fv 79 23) 0) = 41 from by omega)))) (dfr_t (dfr_t hdf ha7) hb7)
              rw [show mx [97, 98, fv 79 33, fv 79 22, fv 79 23, fv 79 24, fv 79 25, fv 79 34, fv 79 36, 99, fv 79 37, fv 79 38] f (wv (wv (mx [97, 98, fv 79 33, fv 79 34, fv 79 36] (mx [97, 98, fv 79 33, fv 79 34, fv 79 36] (mx [97, 98, fv 79 33, fv 79 22, fv 79 23, fv 79 24, fv 79 25, fv 79 34, fv 79 36, 99] f f1) f1_40) f1_49) (fv 79 37) 0 1) (fv 79 38) 0 (f1 (fv 79 23) 0)) = (wv (wv (mx [97, 98, fv 79 33, fv 79 34, fv 79 36] (mx [97, 98, fv 79 33, fv 79 34, fv 79 36] (mx [97, 98, fv 79 33, fv 79 22, fv 79 23, fv 79 24, fv 79 25, fv 79 34, fv 79 36, 99] f f1) f1_40) f1_49) (fv 79 37) 0 1) (fv 79 38) 0 (f1 (fv 79 23) 0)) from ((mx_wv rfl (mx_wv rfl (mx_mx rfl (mx_mx rfl (mx_mx rfl mx_rf)))))).symm] at hk
              exact hk
    · refine hO (c_isWordK (by omega) (show (rdR (mx [97, 98, fv 79 33, fv 79 22, fv 79 23, fv 79 24, fv 79 25, fv 79 34, fv 79 36, 99] f f1)) from hrd1) (show 0 ≤ 4 ∧ 4 ≤ 13 from by decide) (fun (hh_72 : (kdR f) (f1 (fv 79 23) 0) = 4 + 3) => ?_) (fun (hh_73 : ¬ (kdR f) (f1 (fv 79 23) 0) = 4 + 3) => ?_))
      · refine ⟨fun h => absurd (show (1 : Int) = 0 from h) (by decide), fun _ => ?_⟩
        refine ⟨fun (hh_74 : f1 (fv 79 34) 0 = 8) => ?_, fun (hh_74 : ¬ f1 (fv 79 34) 0 = 8) => ?_⟩
        · refine hO (c_errs (by omega) ?_)
          have hk := k1 ((wv (wv (mx [97, 98, fv 79 33, fv 79 22, fv 79 23, fv 79 24, fv 79 25, fv 79 34, fv 79 36, 99] f f1) (fv 79 37) 0 3) (fv 79 38) 0 (f1 (fv 79 23) 0))) (fun W => flt_r (hR.1 (by omega) W) (flt_0 (q_8m (show kdR f (f1 (fv 79 23) 0) = 7 ∨ kdR f (f1 (fv 79 23) 0) = 40 from by omega) (by rw [opn_22]; omega)))) hdf
          rw [show mx [97, 98, fv 79 33, fv 79 22, fv 79 23, fv 79 24, fv 79 25, fv 79 34, fv 79 36, 99, fv 79 37, fv 79 38] f (wv (wv (mx [97, 98, fv 79 33, fv 79 22, fv 79 23, fv 79 24, fv 79 25, fv 79 34, fv 79 36, 99] f f1) (fv 79 37) 0 3) (fv 79 38) 0 (f1 (fv 79 23) 0)) = (wv (wv (mx [97, 98, fv 79 33, fv 79 22, fv 79 23, fv 79 24, fv 79 25, fv 79 34, fv 79 36, 99] f f1) (fv 79 37) 0 3) (fv 79 38) 0 (f1 (fv 79 23) 0)) from ((mx_wv rfl (mx_wv rfl (mx_mx rfl mx_rf)))).symm] at hk
          exact hk
        · refine Or.inl ⟨show inr ((f1 (fv 79 34) 0) + 1) from by constructor <;> omega, ?_⟩
          refine ⟨fun h => absurd (show (1 : Int) = 0 from h) (by decide), fun _ => ?_⟩
          refine ⟨fun h => absurd (show (1 : Int) = 0 from h) (by decide), fun _ => ?_⟩
          refine hO (c_waits (by omega) (show 0 ≤ (f1 (fv 79 36) 0) ∧ (f1 (fv 79 36) 0) < 40 from by omega) ?_)
          refine hO (c_next (by omega) (show (rdR (mx [97, 98, fv 79 33, fv 79 22, fv 79 23, fv 79 24, fv 79 25, fv 79 34, fv 79 36, 99] f f1)) from hrd1) (fun f1_75 (hh_76 :  (rdR (mx [fv 79 22, fv 79 23, fv 79 24, fv 79 25] (mx [97, 98, fv 79 33, fv 79 22, fv 79 23, fv 79 24, fv 79 25, fv 79 34, fv 79 36, 99] f f1) f1_75))) (hh_77 : f1_75 (fv 79 23) 0 = (nxR f) (f1 (fv 79 23) 0)) => ?_))
          have hn1 := hh_76
          have hn2 := hh_77
          have hnb : 0 ≤ f1_75 (fv 79 23) 0 ∧ f1_75 (fv 79 23) 0 ≤ f (fv 79 21) 0 := ⟨(rdR_b hh_76).1, (rdR_b hh_76).2.1⟩
          have hPn : pdI ((mx [fv 79 22, fv 79 23, fv 79 24, fv 79 25] (wv (wv (wv f1 (fv 79 34) 0 ((f1 (fv 79 34) 0) + 1)) 99 (f1 (fv 79 36) 0) 9) (fv 79 36) 0 ((f1 (fv 79 36) 0) + 1)) f1_75) 99) ((mx [fv 79 22, fv 79 23, fv 79 24, fv 79 25] (wv (wv (wv f1 (fv 79 34) 0 ((f1 (fv 79 34) 0) + 1)) 99 (f1 (fv 79 36) 0) 9) (fv 79 36) 0 ((f1 (fv 79 36) 0) + 1)) f1_75) (fv 79 36) 0) = 9 :: pdI (f1 99) (f1 (fv 79 36) 0) := by
            show pdI (wv f1 99 (f1 (fv 79 36) 0) 9 99) (f1 (fv 79 36) 0 + 1) = _
            rw [wv_up, pdI_up hP.1]
          have qp : (mx [fv 79 22, fv 79 23, fv 79 24, fv 79 25] (wv (wv (wv f1 (fv 79 34) 0 ((f1 (fv 79 34) 0) + 1)) 99 (f1 (fv 79 36) 0) 9) (fv 79 36) 0 ((f1 (fv 79 36) 0) + 1)) f1_75) (fv 79 36) 0 = f1 (fv 79 36) 0 + 1 := rfl
          have qz : (mx [fv 79 22, fv 79 23, fv 79 24, fv 79 25] (wv (wv (wv f1 (fv 79 34) 0 ((f1 (fv 79 34) 0) + 1)) 99 (f1 (fv 79 36) 0) 9) (fv 79 36) 0 ((f1 (fv 79 36) 0) + 1)) f1_75) (fv 79 33) 0 = f1 (fv 79 33) 0 := rfl
          have qf : (mx [fv 79 22, fv 79 23, fv 79 24, fv 79 25] (wv (wv (wv f1 (fv 79 34) 0 ((f1 (fv 79 34) 0) + 1)) 99 (f1 (fv 79 36) 0) 9) (fv 79 36) 0 ((f1 (fv 79 36) 0) + 1)) f1_75) (fv 79 23) 0 = _ := hn2
          have qn := hcn (by omega)
          clear hcn
          refine hB (401 - ((mx [fv 79 22, fv 79 23, fv 79 24, fv 79 25] (wv (wv (wv f1 (fv 79 34) 0 ((f1 (fv 79 34) 0) + 1)) 99 (f1 (fv 79 36) 0) 9) (fv 79 36) 0 ((f1 (fv 79 36) 0) + 1)) f1_75) (fv 79 23) 0) : Int).toNat ?_ ⟨rfl, br9, du9, (mx [fv 79 22, fv 79 23, fv 79 24, fv 79 25] (wv (wv (wv f1 (fv 79 34) 0 ((f1 (fv 79 34) 0) + 1)) 99 (f1 (fv 79 36) 0) 9) (fv 79 36) 0 ((f1 (fv 79 36) 0) + 1)) f1_75), rfl, rfl, (mx_mx rfl (mx_wv rfl (mx_wv rfl (mx_wv rfl rfl)))), rfl, ?_, ?_, ?_, ?_, ?_, ?_, ?_, ?_, ?_, ?_, ?_⟩
          · omega
          · exact hn1
          · rw [hPn]
            exact ⟨by omega, by first | exact pok_9 hP.2 | exact pok_12 hP.2⟩
          · rw [hPn]
            first | (rw [c12_n (by decide)]; omega) | (rw [c12_12]; omega)
          · rw [hPn]
            first | (rw [opn9]; exact ⟨by show f1 (fv 79 34) 0 + 1 = _; omega, by show f1 (fv 79 34) 0 + 1 ≤ 8; omega⟩) | (rw [opn12]; exact ⟨by show f1 (fv 79 34) 0 + 1 = _; omega, by show f1 (fv 79 34) 0 + 1 ≤ 8; omega⟩)
          · omega
          · intro h; omega
          · refine ⟨fun _ W => ?_, fun h => absurd h (by omega)⟩
            rw [hPn, show (mx [fv 79 22, fv 79 23, fv 79 24, fv 79 25] (wv (wv (wv f1 (fv 79 34) 0 ((f1 (fv 79 34) 0) + 1)) 99 (f1 (fv 79 36) 0) 9) (fv 79 36) 0 ((f1 (fv 79 36) 0) + 1)) f1_75) (fv 79 23) 0 = _ from hn2]
            exact r_t (hR.1 (by omega) W) (q_8n (by omega) (by rw [opn_22]; omega))
          · omega
          · omega
          · exact hdf
          · omega
      · refine ⟨fun _ => ?_, fun h => absurd (show (0 : Int) = 0 from by decide) h⟩
        refine hO (c_isSignK (by omega) (show (rdR (mx [97, 98, fv 79 33, fv 79 22, fv 79 23, fv 79 24, fv 79 25, fv 79 34, fv 79 36, 99] f f1)) from hrd1) (show 40 ≤ 40 ∧ 40 ≤ 62 from by decide) (fun (hh_78 : (kdR f) (f1 (fv 79 23) 0) = 40) => ?_) (fun (hh_79 : ¬ (kdR f) (f1 (fv 79 23) 0) = 40) => ?_))
        · refine ⟨fun h => absurd (show (1 : Int) = 0 from h) (by decide), fun _ => ?_⟩
          refine ⟨fun (hh_80 : f1 (fv 79 34) 0 = 8) => ?_, fun (hh_80 : ¬ f1 (fv 79 34) 0 = 8) => ?_⟩
          · refine hO (c_errs (by omega) ?_)
            have hk := k1 ((wv (wv (mx [97, 98, fv 79 33, fv 79 22, fv 79 23, fv 79 24, fv 79 25, fv 79 34, fv 79 36, 99] f f1) (fv 79 37) 0 3) (fv 79 38) 0 (f1 (fv 79 23) 0))) (fun W => flt_r (hR.1 (by omega) W) (flt_0 (q_8m (show kdR f (f1 (fv 79 23) 0) = 7 ∨ kdR f (f1 (fv 79 23) 0) = 40 from by omega) (by rw [opn_22]; omega)))) hdf
            rw [show mx [97, 98, fv 79 33, fv 79 22, fv 79 23, fv 79 24, fv 79 25, fv 79 34, fv 79 36, 99, fv 79 37, fv 79 38] f (wv (wv (mx [97, 98, fv 79 33, fv 79 22, fv 79 23, fv 79 24, fv 79 25, fv 79 34, fv 79 36, 99] f f1) (fv 79 37) 0 3) (fv 79 38) 0 (f1 (fv 79 23) 0)) = (wv (wv (mx [97, 98, fv 79 33, fv 79 22, fv 79 23, fv 79 24, fv 79 25, fv 79 34, fv 79 36, 99] f f1) (fv 79 37) 0 3) (fv 79 38) 0 (f1 (fv 79 23) 0)) from ((mx_wv rfl (mx_wv rfl (mx_mx rfl mx_rf)))).symm] at hk
            exact hk
          · refine Or.inl ⟨show inr ((f1 (fv 79 34) 0) + 1) from by constructor <;> omega, ?_⟩
            refine ⟨fun _ => ?_, fun h => absurd (show (0 : Int) = 0 from by decide) h⟩
            refine Or.inl ⟨show inr (br9 + 1) from by constructor <;> omega, ?_⟩
            refine ⟨fun _ => ?_, fun h => absurd (show (0 : Int) = 0 from by decide) h⟩
            refine hO (c_waits (by omega) (show 0 ≤ (f1 (fv 79 36) 0) ∧ (f1 (fv 79 36) 0) < 40 from by omega) ?_)
            refine hO (c_next (by omega) (show (rdR (mx [97, 98, fv 79 33, fv 79 22, fv 79 23, fv 79 24, fv 79 25, fv 79 34, fv 79 36, 99] f f1)) from hrd1) (fun f1_81 (hh_82 :  (rdR (mx [fv 79 22, fv 79 23, fv 79 24, fv 79 25] (mx [97, 98, fv 79 33, fv 79 22, fv 79 23, fv 79 24, fv 79 25, fv 79 34, fv 79 36, 99] f f1) f1_81))) (hh_83 : f1_81 (fv 79 23) 0 = (nxR f) (f1 (fv 79 23) 0)) => ?_))
            have hn1 := hh_82
            have hn2 := hh_83
            have hnb : 0 ≤ f1_81 (fv 79 23) 0 ∧ f1_81 (fv 79 23) 0 ≤ f (fv 79 21) 0 := ⟨(rdR_b hh_82).1, (rdR_b hh_82).2.1⟩
            have hPn : pdI ((mx [fv 79 22, fv 79 23, fv 79 24, fv 79 25] (wv (wv (wv f1 (fv 79 34) 0 ((f1 (fv 79 34) 0) + 1)) 99 (f1 (fv 79 36) 0) 12) (fv 79 36) 0 ((f1 (fv 79 36) 0) + 1)) f1_81) 99) ((mx [fv 79 22, fv 79 23, fv 79 24, fv 79 25] (wv (wv (wv f1 (fv 79 34) 0 ((f1 (fv 79 34) 0) + 1)) 99 (f1 (fv 79 36) 0) 12) (fv 79 36) 0 ((f1 (fv 79 36) 0) + 1)) f1_81) (fv 79 36) 0) = 12 :: pdI (f1 99) (f1 (fv 79 36) 0) := by
              show pdI (wv f1 99 (f1 (fv 79 36) 0) 12 99) (f1 (fv 79 36) 0 + 1) = _
              rw [wv_up, pdI_up hP.1]
            have qp : (mx [fv 79 22, fv 79 23, fv 79 24, fv 79 25] (wv (wv (wv f1 (fv 79 34) 0 ((f1 (fv 79 34) 0) + 1)) 99 (f1 (fv 79 36) 0) 12) (fv 79 36) 0 ((f1 (fv 79 36) 0) + 1)) f1_81) (fv 79 36) 0 = f1 (fv 79 36) 0 + 1 := rfl
            have qz : (mx [fv 79 22, fv 79 23, fv 79 24, fv 79 25] (wv (wv (wv f1 (fv 79 34) 0 ((f1 (fv 79 34) 0) + 1)) 99 (f1 (fv 79 36) 0) 12) (fv 79 36) 0 ((f1 (fv 79 36) 0) + 1)) f1_81) (fv 79 33) 0 = f1 (fv 79 33) 0 := rfl
            have qf : (mx [fv 79 22, fv 79 23, fv 79 24, fv 79 25] (wv (wv (wv f1 (fv 79 34) 0 ((f1 (fv 79 34) 0) + 1)) 99 (f1 (fv 79 36) 0) 12) (fv 79 36) 0 ((f1 (fv 79 36) 0) + 1)) f1_81) (fv 79 23) 0 = _ := hn2
            have qn := hcn (by omega)
            clear hcn
            refine hB (401 - ((mx [fv 79 22, fv 79 23, fv 79 24, fv 79 25] (wv (wv (wv f1 (fv 79 34) 0 ((f1 (fv 79 34) 0) + 1)) 99 (f1 (fv 79 36) 0) 12) (fv 79 36) 0 ((f1 (fv 79 36) 0) + 1)) f1_81) (fv 79 23) 0) : Int).toNat ?_ ⟨rfl, (br9 + 1), du9, (mx [fv 79 22, fv 79 23, fv 79 24, fv 79 25] (wv (wv (wv f1 (fv 79 34) 0 ((f1 (fv 79 34) 0) + 1)) 99 (f1 (fv 79 36) 0) 12) (fv 79 36) 0 ((f1 (fv 79 36) 0) + 1)) f1_81), rfl, rfl, (mx_mx rfl (mx_wv rfl (mx_wv rfl (mx_wv rfl rfl)))), rfl, ?_, ?_, ?_, ?_, ?_, ?_, ?_, ?_, ?_, ?_, ?_⟩
            · omega
            · exact hn1
            · rw [hPn]
              exact ⟨by omega, by first | exact pok_9 hP.2 | exact pok_12 hP.2⟩
            · rw [hPn]
              first | (rw [c12_n (by decide)]; omega) | (rw [c12_12]; omega)
            · rw [hPn]
              first | (rw [opn9]; exact ⟨by show f1 (fv 79 34) 0 + 1 = _; omega, by show f1 (fv 79 34) 0 + 1 ≤ 8; omega⟩) | (rw [opn12]; exact ⟨by show f1 (fv 79 34) 0 + 1 = _; omega, by show f1 (fv 79 34) 0 + 1 ≤ 8; omega⟩)
            · omega
            · intro h; omega
            · refine ⟨fun _ W => ?_, fun h => absurd h (by omega)⟩
              rw [hPn, show (mx [fv 79 22, fv 79 23, fv 79 24, fv 79 25] (wv (wv (wv f1 (fv 79 34) 0 ((f1 (fv 79 34) 0) + 1)) 99 (f1 (fv 79 36) 0) 12) (fv 79 36) 0 ((f1 (fv 79 36) 0) + 1)) f1_81) (fv 79 23) 0 = _ from hn2]
              exact r_t (hR.1 (by omega) W) (q_8b (by omega) (by rw [opn_22]; omega))
            · omega
            · omega
            · exact hdf
            · omega
        · refine ⟨fun _ => ?_, fun h => absurd (show (0 : Int) = 0 from by decide) h⟩
          refine hO (c_compared (by omega) (show (rdR (mx [97, 98, fv 79 33, fv 79 22, fv 79 23, fv 79 24, fv 79 25, fv 79 34, fv 79 36, 99] f f1)) from hrd1) (show (f1 (fv 79 33) 0) ≤ (f1 (fv 79 23) 0) from by omega) (fun f1_84 (hh_85 :  (rdR (mx [97, 98, fv 79 33, fv 79 22, fv 79 23, fv 79 24, fv 79 25] (mx [97, 98, fv 79 33, fv 79 22, fv 79 23, fv 79 24, fv 79 25, fv 79 34, fv 79 36, 99] f f1) f1_84))) (hh_86 : ∀ K W, Rch (kdR f) (nxR f) (1, 21 :: K, (f1 (fv 79 23) 0), (sl (rcd (mx [97, 98, fv 79 33, fv 79 22, fv 79 23, fv 79 24, fv 79 25, fv 79 34, fv 79 36, 99] f f1)) 400 (400 + (f1 (fv 79 33) 0))), W) (9, K, f1_84 (fv 79 23) 0, (sl (rcd f1_84) 400 (400 + f1_84 (fv 79 33) 0)), W)) (hh_87 : f1_84 (fv 79 33) 0 - f1_84 (fv 79 23) 0 ≤ (f1 (fv 79 33) 0) - (f1 (fv 79 23) 0)) (hh_88 : (f1 (fv 79 23) 0) < f1_84 (fv 79 23) 0) (hh_89 : (dfr (mx [97, 98, fv 79 33, fv 79 22, fv 79 23, fv 79 24, fv 79 25, fv 79 34, fv 79 36, 99] f f1)) f1_84) => ?_) (fun f1_90 (hh_91 : ∀ K W, flt (kdR f) (nxR f) (1, 21 :: K, (f1 (fv 79 23) 0), (sl (rcd (mx [97, 98, fv 79 33, fv 79 22, fv 79 23, fv 79 24, fv 79 25, fv 79 34, fv 79 36, 99] f f1)) 400 (400 + (f1 (fv 79 33) 0))), W) (f1_90 (fv 79 37) 0) (f1_90 (fv 79 38) 0)) (hh_92 : (dfr (mx [97, 98, fv 79 33, fv 79 22, fv 79 23, fv 79 24, fv 79 25, fv 79 34, fv 79 36, 99] f f1)) f1_90) => ?_))
          · have hm1 := hh_85
            have hm2 := hh_86
            have hm3 := hh_87
            have hm4 := hh_88
            have hm5 := hh_89
            have hmb : 0 ≤ f1_84 (fv 79 23) 0 ∧ f1_84 (fv 79 23) 0 ≤ f (fv 79 21) 0 := ⟨(rdR_b hh_85).1, (rdR_b hh_85).2.1⟩
            refine ⟨fun h => absurd (show (0 : Int) = (-1) from h) (by decide), fun _ => ?_⟩
            refine hO (c_settles (by omega) (show (rdR (mx [97, 98, fv 79 33, fv 79 22, fv 79 23, fv 79 24, fv 79 25] (mx [97, 98, fv 79 33, fv 79 22, fv 79 23, fv 79 24, fv 79 25, fv 79 34, fv 79 36, 99] f f1) f1_84)) from hm1) (show (f1_84 (fv 79 33) 0) + (f1 (fv 79 36) 0) ≤ 400 from by omega) (show 0 ≤ (f1 (fv 79 36) 0) ∧ (f1 (fv 79 36) 0) ≤ 40 from by omega) (show 9 ≤ 9 ∧ 9 ≤ 11 from by decide) (show 9 = 9 → 0 ≤ (f1 (fv 79 34) 0) ∧ (f1 (fv 79 34) 0) ≤ 100 from fun _ => by omega) (fun kk_93 f1_94 (hh_95 :  (rdR (mx [97, 98, fv 79 33, fv 79 34, fv 79 36] (mx [97, 98, fv 79 33, fv 79 22, fv 79 23, fv 79 24, fv 79 25] (mx [97, 98, fv 79 33, fv 79 22, fv 79 23, fv 79 24, fv 79 25, fv 79 34, fv 79 36, 99] f f1) f1_84) f1_94))) (hh_96 : (pdI (f1 99) (f1 (fv 79 36) 0)) = List.replicate kk_93 9 ++ (pdI (f1 99) (f1_94 (fv 79 36) 0))) (hh_97 : (sl (rcd f1_94) 400 (400 + f1_94 (fv 79 33) 0)) = (sl (rcd (mx [97, 98, fv 79 33, fv 79 22, fv 79 23, fv 79 24, fv 79 25] (mx [97, 98, fv 79 33, fv 79 22, fv 79 23, fv 79 24, fv 79 25, fv 79 34, fv 79 36, 99] f f1) f1_84)) 400 (400 + (f1_84 (fv 79 33) 0))) ++ List.replicate kk_93 (enc 9 0)) (hh_98 : f1_94 (fv 79 33) 0 = (f1_84 (fv 79 33) 0) + kk_93 ∧ f1_94 (fv 79 36) 0 = (f1 (fv 79 36) 0) - kk_93 ∧ 0 ≤ f1_94 (fv 79 36) 0) (hh_99 : ¬ hdv (pdI (f1 99) (f1_94 (fv 79 36) 0)) = 9) (hh_100 : (9 = 9 → f1_94 (fv 79 34) 0 = (f1 (fv 79 34) 0) - kk_93) ∧ (¬ 9 = 9 → f1_94 (fv 79 34) 0 = (f1 (fv 79 34) 0))) (hh_101 : (dfr (mx [97, 98, fv 79 33, fv 79 22, fv 79 23, fv 79 24, fv 79 25] (mx [97, 98, fv 79 33, fv 79 22, fv 79 23, fv 79 24, fv 79 25, fv 79 34, fv 79 36, 99] f f1) f1_84)) f1_94) => ?_))
            have ha1 := hh_95
            have ha2 := hh_96
            have ha3 := hh_97
            have ha4 := hh_98
            have ha5 := hh_99
            have ha6 := hh_100
            have ha7 := hh_101
            have hap : pok (pdI (f1 99) (f1_94 (fv 79 36) 0)) := rp_pok _ (by rw [← ha2]; exact hP.2)
            have hac : c12 (pdI (f1 99) (f1_94 (fv 79 36) 0)) = c12 (pdI (f1 99) (f1 (fv 79 36) 0)) := by rw [ha2, rp_c12 (by decide)]
            have hao : opn (pdI (f1 99) (f1 (fv 79 36) 0)) = opn (pdI (f1 99) (f1_94 (fv 79 36) 0)) + kk_93 := by rw [ha2, rp_opn9]
            have hPn : pdI ((mx [97, 98, fv 79 33, fv 79 34, fv 79 36] (mx [97, 98, fv 79 33, fv 79 22, fv 79 23, fv 79 24, fv 79 25] f1 f1_84) f1_94) 99) ((mx [97, 98, fv 79 33, fv 79 34, fv 79 36] (mx [97, 98, fv 79 33, fv 79 22, fv 79 23, fv 79 24, fv 79 25] f1 f1_84) f1_94) (fv 79 36) 0) = pdI (f1 99) (f1_94 (fv 79 36) 0) := rfl
            have qp : (mx [97, 98, fv 79 33, fv 79 34, fv 79 36] (mx [97, 98, fv 79 33, fv 79 22, fv 79 23, fv 79 24, fv 79 25] f1 f1_84) f1_94) (fv 79 36) 0 = f1_94 (fv 79 36) 0 := rfl
            have qz : (mx [97, 98, fv 79 33, fv 79 34, fv 79 36] (mx [97, 98, fv 79 33, fv 79 22, fv 79 23, fv 79 24, fv 79 25] f1 f1_84) f1_94) (fv 79 33) 0 = f1_94 (fv 79 33) 0 := rfl
            have qf : (mx [97, 98, fv 79 33, fv 79 34, fv 79 36] (mx [97, 98, fv 79 33, fv 79 22, fv 79 23, fv 79 24, fv 79 25] f1 f1_84) f1_94) (fv 79 23) 0 = f1_84 (fv 79 23) 0 := rfl
            refine hB (401 - ((mx [97, 98, fv 79 33, fv 79 34, fv 79 36] (mx [97, 98, fv 79 33, fv 79 22, fv 79 23, fv 79 24, fv 79 25] f1 f1_84) f1_94) (fv 79 23) 0) : Int).toNat ?_ ⟨rfl, br9, 0, (mx [97, 98, fv 79 33, fv 79 34, fv 79 36] (mx [97, 98, fv 79 33, fv 79 22, fv 79 23, fv 79 24, fv 79 25] f1 f1_84) f1_94), rfl, rfl, (mx_mx rfl (mx_mx rfl rfl)), rfl, ?_, ?_, ?_, ?_, ?_, ?_, ?_, ?_, ?_, ?_, ?_⟩
            · omega
            · exact ha1
            · rw [hPn]
              exact ⟨by omega, hap⟩
            · rw [hPn]
              omega
            · rw [hPn]
              have q6 := ha6.1 rfl
              exact ⟨by show f1_94 (fv 79 34) 0 = _; omega, by show f1_94 (fv 79 34) 0 ≤ 8; omega⟩
            · omega
            · intro _; rw [hPn]; exact ha5
            · refine ⟨fun h => absurd h (by decide), fun _ W => ?_⟩
              rw [hPn, qf]
              exact r_t (r_t (hR.1 (by omega) W) (q_8c (by omega) (by omega))) (r_t (hm2 (pdI (f1 99) (f1 (fv 79 36) 0) ++ [22]) W) (an_9 ha2 ha3 ha5))
            · omega
            · omega
            · exact dfr_t (dfr_t hdf hm5) ha7
            · omega
          · have hg1 := hh_91
            have hg2 := hh_92
            refine ⟨fun _ => ?_, fun h => absurd (show ((-1) : Int) = (-1) from by decide) h⟩
            have hk := k1 ((mx [97, 98, fv 79 33, fv 79 22, fv 79 23, fv 79 24, fv 79 25, fv 79 37, fv 79 38] (mx [97, 98, fv 79 33, fv 79 22, fv 79 23, fv 79 24, fv 79 25, fv 79 34, fv 79 36, 99] f f1) f1_90)) (fun W => flt_r (r_t (hR.1 (by omega) W) (q_8c (by omega) (by omega))) (hg1 (pdI (f1 99) (f1 (fv 79 36) 0) ++ [22]) W)) (dfr_t hdf hg2)
            rw [show mx [97, 98, fv 79 33, fv 79 22, fv 79 23, fv 79 24, fv 79 25, fv 79 34, fv 79 36, 99, fv 79 37, fv 79 38] f (mx [97, 98, fv 79 33, fv 79 22, fv 79 23, fv 79 24, fv 79 25, fv 79 37, fv 79 38] (mx [97, 98, fv 79 33, fv 79 22, fv 79 23, fv 79 24, fv 79 25, fv 79 34, fv 79 36, 99] f f1) f1_90) = (mx [97, 98, fv 79 33, fv 79 22, fv 79 23, fv 79 24, fv 79 25, fv 79 37, fv 79 38] (mx [97, 98, fv 79 33, fv 79 22, fv 79 23, fv 79 24, fv 79 25, fv 79 34, fv 79 36, 99] f f1) f1_90) from ((mx_mx rfl (mx_mx rfl mx_rf))).symm] at hk
            exact hk
  · have hb0 := rdR_b hrd
    have qf : (wv f (fv 79 36) 0 0) (fv 79 23) 0 = f (fv 79 23) 0 := rfl
    have qz : (wv f (fv 79 36) 0 0) (fv 79 33) 0 = f (fv 79 33) 0 := rfl
    have qp : (wv f (fv 79 36) 0 0) (fv 79 36) 0 = 0 := rfl
    refine hF (401 - ((wv f (fv 79 36) 0 0) (fv 79 23) 0) : Int).toNat ?_ ⟨rfl, 0, 1, (wv f (fv 79 36) 0 0), rfl, rfl, (mx_wv rfl mx_rf), rfl, ?_, ?_, ?_, ?_, ?_, ?_, ?_, ?_, ?_, ?_, ?_⟩
    · omega
    · exact hrd
    · exact ⟨Int.le_refl _, True.intro⟩
    · rfl
    · exact ⟨hop0, by show f (fv 79 34) 0 ≤ 8; omega⟩
    · omega
    · intro h; omega
    · refine ⟨fun _ W => r_0, fun h => ?_⟩; omega
    · omega
    · omega
    · exact dfr_0 rfl rfl
    · omega
end C46
