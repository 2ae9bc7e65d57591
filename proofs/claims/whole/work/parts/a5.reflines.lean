section C47
variable {d : Nat} {f : iF} {g : iG} {Q : Option iv → iF → iG → Prop}
/-! ===== the reference: lines of a text ===== -/
def wlR (A B : Int → Int) (k : Int) : List Int := wlI (fun x => A (16 + x)) (fun x => B (15 + x)) k
theorem wlR_s {A B A' B' : Int → Int} {k a b : Int} (h : 0 ≤ k) (h1 : A' = up A (16 + k) a) (h2 : B' = up B (16 + k) b) : wlR A' B' (k + 1) = wlR A B k ++ [a] ++ [b] := by
  unfold wlR wlI
  rw [show (k + 1).toNat = k.toNat + 1 by omega, wlN, show ((k.toNat : Nat) : Int) = k by omega, h1, h2]
  show _ ++ [up A (16 + k) a (16 + k)] ++ [up B (16 + k) b (15 + (k + 1))] = _
  rw [show 15 + (k + 1) = 16 + k by omega, up_s, up_s]
  rw [wlN_cg (cn := fun x => up A (16 + k) a (16 + x)) (st := fun x => up B (16 + k) b (15 + x)) (cn' := fun x => A (16 + x)) (st' := fun x => B (15 + x)) k.toNat (fun q q0 q1 => ⟨up_n (by omega), up_n (by omega)⟩)]
theorem slr_len {c : Int → Int} {n : Int} (h : 0 ≤ n) : ((sl c 400 (400 + n)).length : Int) = n := by unfold sl; rw [slN_len]; omega
/-- lines that are not the draft's stay -/
def lfr (f F : iF) : Prop := ∀ k, k < 16 → F 94 k = f 94 k ∧ F 95 k = f 95 k ∧ F 96 k = f 96 k
theorem lfr_0 {f F : iF} (h1 : F 94 = f 94) (h2 : F 95 = f 95) (h3 : F 96 = f 96) : lfr f F := fun k _ => ⟨by rw [h1], by rw [h2], by rw [h3]⟩
set_option maxRecDepth 100000 in
set_option maxHeartbeats 4000000 in
theorem c_readText (hd : 9 ≤ d) (hrd : (rdR f)) (hc0 : (f (fv 79 33) 0) = 0) (hop0 : (f (fv 79 34) 0) = 0) (k0 : ∀ kk : Int, ∀ f1 : iF, ( (rdR (mx [97, 98, fv 79 33, fv 79 22, fv 79 23, fv 79 24, fv 79 25, fv 79 34, fv 79 36, 99, 94, 95, 96] f f1))) → (Rch (kdR f) (nxR f) (0, [], (f (fv 79 23) 0), [], []) (99, [], f1 (fv 79 23) 0, (sl (rcd f1) 400 (400 + f1 (fv 79 33) 0)), (wlR (f1 94) (f1 96) kk))) → (0 ≤ kk ∧ kk ≤ 16) → (f1 (fv 79 33) 0 ≤ 400) → (∀ l, 0 ≤ l → l < kk → f1 95 (16 + l) = if l = 0 then 0 else f1 96 (15 + l)) → ((dfr f) f1) → ((lfr f) f1) → Q (some (iI kk)) (mx [97, 98, fv 79 33, fv 79 22, fv 79 23, fv 79 24, fv 79 25, fv 79 34, fv 79 36, 99, 94, 95, 96] f f1) g) (k1 : ∀ f1 : iF, (flt (kdR f) (nxR f) (0, [], (f (fv 79 23) 0), [], []) (f1 (fv 79 37) 0) (f1 (fv 79 38) 0)) → ((dfr f) f1) → ((lfr f) f1) → Q (some (iI (-1))) (mx [97, 98, fv 79 33, fv 79 22, fv 79 23, fv 79 24, fv 79 25, fv 79 34, fv 79 36, 99, 94, 95, 96, fv 79 37, fv 79 38] f f1) g) : wq d 39 [iR 79] f g Q := by
  obtain ⟨d, rfl⟩ : ∃ e, d = e + 1 := ⟨d - 1, by omega⟩
  refine i_meth [(2, 2)] (fun n j lv st f' g' => (j = 2 ∧ ∃ (kk9 : Int) (f1 : iF), lv = [some (iR 79), some (iI kk9)] ∧ st = [] ∧ f' = (mx [97, 98, fv 79 33, fv 79 22, fv 79 23, fv 79 24, fv 79 25, fv 79 34, fv 79 36, 99, 94, 95, 96] f f1) ∧ g = g' ∧ (rdR (mx [97, 98, fv 79 33, fv 79 22, fv 79 23, fv 79 24, fv 79 25, fv 79 34, fv 79 36, 99, 94, 95, 96] f f1)) ∧ (0 ≤ kk9 ∧ kk9 ≤ 16) ∧ (Rch (kdR f) (nxR f) (0, [], f (fv 79 23) 0, [], []) (0, [], f1 (fv 79 23) 0, sl (rcd f1) 400 (400 + f1 (fv 79 33) 0), wlR (f1 94) (f1 96) kk9)) ∧ (f1 (fv 79 33) 0 ≤ f1 (fv 79 23) 0) ∧ (f1 (fv 79 34) 0 = 0) ∧ ((∀ l, 0 ≤ l → l < kk9 → f1 95 (16 + l) = if l = 0 then 0 else f1 96 (15 + l)) ∧ f1 (fv 79 33) 0 = if kk9 = 0 then 0 else f1 96 (15 + kk9)) ∧ (dfr f f1) ∧ (lfr f f1) ∧ (n : Int) = 401 - (f1 (fv 79 23) 0))) 402 (by omega) rfl rfl (fun n j lv st f' g' hn hI O J hO hF hB => ?_) (fun hvs hin O J hO hF => ?_)
  · obtain ⟨rfl, kk9, f1, rfl, rfl, rfl, rfl, hrd1, hk, hR, hz, ho, hfm, hdf, hlf, hm⟩ := hI
    have hb0 := rdR_b hrd
    have hb1 : 0 ≤ f1 (fv 79 23) 0 ∧ f1 (fv 79 23) 0 ≤ f (fv 79 21) 0 ∧ f (fv 79 21) 0 ≤ 400 ∧ 0 ≤ f1 (fv 79 33) 0 := rdR_b hrd1
    have hcn : ¬ kdR f (f1 (fv 79 23) 0) = 0 → f1 (fv 79 23) 0 < nxR f (f1 (fv 79 23) 0) ∧ nxR f (f1 (fv 79 23) 0) ≤ f (fv 79 21) 0 := fun q => rdR_n hrd1 q
    have hwl : ((wlR (f1 94) (f1 96) kk9).length : Int) = 2 * kk9 := wlI_len hk.1
    refine hO (c_isWordK (by omega) (show (rdR (mx [97, 98, fv 79 33, fv 79 22, fv 79 23, fv 79 24, fv 79 25, fv 79 34, fv 79 36, 99, 94, 95, 96] f f1)) from hrd1) (show 0 ≤ 0 ∧ 0 ≤ 13 from by decide) (fun (hh_1 : (kdR f) (f1 (fv 79 23) 0) = 0 + 3) => ?_) (fun (hh_2 : ¬ (kdR f) (f1 (fv 79 23) 0) = 0 + 3) => ?_))
    · refine ⟨fun h => absurd (show (1 : Int) = 0 from h) (by decide), fun _ => ?_⟩
      refine ⟨fun (hh_3 : kk9 = 16) => ?_, fun (hh_3 : ¬ kk9 = 16) => ?_⟩
      · refine hO (c_errs (by omega) ?_)
        have hk := k1 ((wv (wv (mx [97, 98, fv 79 33, fv 79 22, fv 79 23, fv 79 24, fv 79 25, fv 79 34, fv 79 36, 99, 94, 95, 96] f f1) (fv 79 37) 0 3) (fv 79 38) 0 (f1 (fv 79 23) 0))) (flt_r hR (flt_0 (q_0m (show kdR f (f1 (fv 79 23) 0) = 3 from by omega) (by omega)))) hdf hlf
        rw [show mx [97, 98, fv 79 33, fv 79 22, fv 79 23, fv 79 24, fv 79 25, fv 79 34, fv 79 36, 99, 94, 95, 96, fv 79 37, fv 79 38] f (wv (wv (mx [97, 98, fv 79 33, fv 79 22, fv 79 23, fv 79 24, fv 79 25, fv 79 34, fv 79 36, 99, 94, 95, 96] f f1) (fv 79 37) 0 3) (fv 79 38) 0 (f1 (fv 79 23) 0)) = (wv (wv (mx [97, 98, fv 79 33, fv 79 22, fv 79 23, fv 79 24, fv 79 25, fv 79 34, fv 79 36, 99, 94, 95, 96] f f1) (fv 79 37) 0 3) (fv 79 38) 0 (f1 (fv 79 23) 0)) from ((mx_wv rfl (mx_wv rfl (mx_mx rfl mx_rf)))).symm] at hk
        exact hk
      · have qn0 := hcn (by omega)
        clear hcn
        refine Or.inl ⟨show inr (16 + kk9) from by constructor <;> omega, ?_⟩
        refine hO (c_next (by omega) (show (rdR (mx [97, 98, fv 79 33, fv 79 22, fv 79 23, fv 79 24, fv 79 25, fv 79 34, fv 79 36, 99, 94, 95, 96] f f1)) from hrd1) (fun f1_4 (hh_5 :  (rdR (mx [fv 79 22, fv 79 23, fv 79 24, fv 79 25] (mx [97, 98, fv 79 33, fv 79 22, fv 79 23, fv 79 24, fv 79 25, fv 79 34, fv 79 36, 99, 94, 95, 96] f f1) f1_4))) (hh_6 : f1_4 (fv 79 23) 0 = (nxR f) (f1 (fv 79 23) 0)) => ?_))
        have hn1 := hh_5
        have hn2 := hh_6
        have hnb : 0 ≤ f1_4 (fv 79 23) 0 ∧ f1_4 (fv 79 23) 0 ≤ f (fv 79 21) 0 := ⟨(rdR_b hh_5).1, (rdR_b hh_5).2.1⟩
        refine ⟨show 0 ≤ ((16 + kk9) : Int) ∧ (16 + kk9) < 32 from by omega, ?_⟩
        refine hO (c_sum (by omega) (show (rdR (mx [fv 79 22, fv 79 23, fv 79 24, fv 79 25] (mx [97, 98, fv 79 33, fv 79 22, fv 79 23, fv 79 24, fv 79 25, fv 79 34, fv 79 36, 99, 94, 95, 96] f f1) f1_4)) from hn1) (show (f1 (fv 79 33) 0) ≤ (f1_4 (fv 79 23) 0) from by omega) (fun f1_7 (hh_8 :  (rdR (mx [97, 98, fv 79 33, fv 79 22, fv 79 23, fv 79 24, fv 79 25] (mx [fv 79 22, fv 79 23, fv 79 24, fv 79 25] (mx [97, 98, fv 79 33, fv 79 22, fv 79 23, fv 79 24, fv 79 25, fv 79 34, fv 79 36, 99, 94, 95, 96] f f1) f1_4) f1_7))) (hh_9 : ∀ x K W, okx x → Rch (kdR f) (nxR f) (1, x :: K, (f1_4 (fv 79 23) 0), (sl (rcd (mx [97, 98, fv 79 33, fv 79 22, fv 79 23, fv 79 24, fv 79 25, fv 79 34, fv 79 36, 99, 94, 95, 96] f f1)) 400 (400 + (f1 (fv 79 33) 0))), W) (6, x :: K, f1_7 (fv 79 23) 0, (sl (rcd f1_7) 400 (400 + f1_7 (fv 79 33) 0)), W)) (hh_10 : f1_7 (fv 79 33) 0 - f1_7 (fv 79 23) 0 ≤ (f1 (fv 79 33) 0) - (f1_4 (fv 79 23) 0)) (hh_11 : (f1_4 (fv 79 23) 0) < f1_7 (fv 79 23) 0) (hh_12 : (dfr (mx [97, 98, fv 79 33, fv 79 22, fv 79 23, fv 79 24, fv 79 25, fv 79 34, fv 79 36, 99, 94, 95, 96] f f1)) f1_7) => ?_) (fun f1_13 (hh_14 : ∀ x K W, okx x → flt (kdR f) (nxR f) (1, x :: K, (f1_4 (fv 79 23) 0), (sl (rcd (mx [97, 98, fv 79 33, fv 79 22, fv 79 23, fv 79 24, fv 79 25, fv 79 34, fv 79 36, 99, 94, 95, 96] f f1)) 400 (400 + (f1 (fv 79 33) 0))), W) (f1_13 (fv 79 37) 0) (f1_13 (fv 79 38) 0)) (hh_15 : (dfr (mx [97, 98, fv 79 33, fv 79 22, fv 79 23, fv 79 24, fv 79 25, fv 79 34, fv 79 36, 99, 94, 95, 96] f f1)) f1_13) => ?_))
        · have hs1 := hh_8
          have hs2 := hh_9
          have hs3 := hh_10
          have hs4 := hh_11
          have hs5 := hh_12
          have hsb : 0 ≤ f1_7 (fv 79 23) 0 ∧ f1_7 (fv 79 23) 0 ≤ f (fv 79 21) 0 := ⟨(rdR_b hh_8).1, (rdR_b hh_8).2.1⟩
          have hs0 : 0 ≤ f1_7 (fv 79 33) 0 := (rdR_b hh_8).2.2.2
          refine ⟨fun h => absurd (show (0 : Int) = (-1) from h) (by decide), fun _ => ?_⟩
          refine ⟨show 0 ≤ ((16 + kk9) : Int) ∧ (16 + kk9) < 32 from by omega, ?_⟩
          refine hO (c_isWordK (by omega) (show (rdR (mx [97, 98, fv 79 33, fv 79 22, fv 79 23, fv 79 24, fv 79 25] (mx [fv 79 22, fv 79 23, fv 79 24, fv 79 25] (mx [97, 98, fv 79 33, fv 79 22, fv 79 23, fv 79 24, fv 79 25, fv 79 34, fv 79 36, 99, 94, 95, 96] f f1) f1_4) f1_7)) from hs1) (show 0 ≤ 1 ∧ 1 ≤ 13 from by decide) (fun (hh_16 : (kdR f) (f1_7 (fv 79 23) 0) = 1 + 3) => ?_) (fun (hh_17 : ¬ (kdR f) (f1_7 (fv 79 23) 0) = 1 + 3) => ?_))
          · refine ⟨fun h => absurd (show (1 : Int) = 0 from h) (by decide), fun _ => ?_⟩
            have qn1 := (rdR_n hs1 (show ¬ kdR f (f1_7 (fv 79 23) 0) = 0 from by omega))
            have qn1 : f1_7 (fv 79 23) 0 < nxR f (f1_7 (fv 79 23) 0) := qn1.1
            refine hO (c_next (by omega) (show (rdR (mx [97, 98, fv 79 33, fv 79 22, fv 79 23, fv 79 24, fv 79 25] (mx [fv 79 22, fv 79 23, fv 79 24, fv 79 25] (mx [97, 98, fv 79 33, fv 79 22, fv 79 23, fv 79 24, fv 79 25, fv 79 34, fv 79 36, 99, 94, 95, 96] f f1) f1_4) f1_7)) from hs1) (fun f1_18 (hh_19 :  (rdR (mx [fv 79 22, fv 79 23, fv 79 24, fv 79 25] (mx [97, 98, fv 79 33, fv 79 22, fv 79 23, fv 79 24, fv 79 25] (mx [fv 79 22, fv 79 23, fv 79 24, fv 79 25] (mx [97, 98, fv 79 33, fv 79 22, fv 79 23, fv 79 24, fv 79 25, fv 79 34, fv 79 36, 99, 94, 95, 96] f f1) f1_4) f1_7) f1_18))) (hh_20 : f1_18 (fv 79 23) 0 = (nxR f) (f1_7 (fv 79 23) 0)) => ?_))
            have hv1 := hh_19
            have hv2 := hh_20
            have hvb : 0 ≤ f1_18 (fv 79 23) 0 ∧ f1_18 (fv 79 23) 0 ≤ f (fv 79 21) 0 := ⟨(rdR_b hh_19).1, (rdR_b hh_19).2.1⟩
            refine hO (c_any (by omega) (show (rdR (mx [fv 79 22, fv 79 23, fv 79 24, fv 79 25] (mx [97, 98, fv 79 33, fv 79 22, fv 79 23, fv 79 24, fv 79 25] (mx [fv 79 22, fv 79 23, fv 79 24, fv 79 25] (mx [97, 98, fv 79 33, fv 79 22, fv 79 23, fv 79 24, fv 79 25, fv 79 34, fv 79 36, 99, 94, 95, 96] f f1) f1_4) f1_7) f1_18)) from hv1) (show (f1_7 (fv 79 33) 0) ≤ (f1_18 (fv 79 23) 0) from by omega) (show (f1 (fv 79 34) 0) = 0 from ho) (fun f1_21 (hh_22 :  (rdR (mx [97, 98, fv 79 33, fv 79 22, fv 79 23, fv 79 24, fv 79 25, fv 79 34, fv 79 36, 99] (mx [fv 79 22, fv 79 23, fv 79 24, fv 79 25] (mx [97, 98, fv 79 33, fv 79 22, fv 79 23, fv 79 24, fv 79 25] (mx [fv 79 22, fv 79 23, fv 79 24, fv 79 25] (mx [97, 98, fv 79 33, fv 79 22, fv 79 23, fv 79 24, fv 79 25, fv 79 34, fv 79 36, 99, 94, 95, 96] f f1) f1_4) f1_7) f1_18) f1_21))) (hh_23 : ∀ W, Rch (kdR f) (nxR f) (8, [22], (f1_18 (fv 79 23) 0), (sl (rcd (mx [97, 98, fv 79 33, fv 79 22, fv 79 23, fv 79 24, fv 79 25] (mx [97, 98, fv 79 33, fv 79 22, fv 79 23, fv 79 24, fv 79 25, fv 79 34, fv 79 36, 99, 94, 95, 96] f f1) f1_7)) 400 (400 + (f1_7 (fv 79 33) 0))), W) (16, [], f1_21 (fv 79 23) 0, (sl (rcd f1_21) 400 (400 + f1_21 (fv 79 33) 0)), W)) (hh_24 : f1_21 (fv 79 33) 0 - f1_21 (fv 79 23) 0 ≤ (f1_7 (fv 79 33) 0) - (f1_18 (fv 79 23) 0)) (hh_25 : (f1_18 (fv 79 23) 0) ≤ f1_21 (fv 79 23) 0) (hh_26 : (dfr (mx [97, 98, fv 79 33, fv 79 22, fv 79 23, fv 79 24, fv 79 25] (mx [97, 98, fv 79 33, fv 79 22, fv 79 23, fv 79 24, fv 79 25, fv 79 34, fv 79 36, 99, 94, 95, 96] f f1) f1_7)) f1_21) (hh_27 : f1_21 (fv 79 34) 0 = 0) => ?_) (fun f1_28 (hh_29 : ∀ W, flt (kdR f) (nxR f) (8, [22], (f1_18 (fv 79 23) 0), (sl (rcd (mx [97, 98, fv 79 33, fv 79 22, fv 79 23, fv 79 24, fv 79 25] (mx [97, 98, fv 79 33, fv 79 22, fv 79 23, fv 79 24, fv 79 25, fv 79 34, fv 79 36, 99, 94, 95, 96] f f1) f1_7)) 400 (400 + (f1_7 (fv 79 33) 0))), W) (f1_28 (fv 79 37) 0) (f1_28 (fv 79 38) 0)) (hh_30 : (dfr (mx [97, 98, fv 79 33, fv 79 22, fv 79 23, fv 79 24, fv 79 25] (mx [97, 98, fv 79 33, fv 79 22, fv 79 23, fv 79 24, fv 79 25, fv 79 34, fv 79 36, 99, 94, 95, 96] f f1) f1_7)) f1_28) => ?_))
            · have ha1 := hh_22
              have ha2 := hh_23
              have ha3 := hh_24
              have ha4 := hh_25
              have ha5 := hh_26
              have ha6 := hh_27
              have hab : 0 ≤ f1_21 (fv 79 23) 0 ∧ f1_21 (fv 79 23) 0 ≤ f (fv 79 21) 0 := ⟨(rdR_b hh_22).1, (rdR_b hh_22).2.1⟩
              have ha0 : 0 ≤ f1_21 (fv 79 33) 0 := (rdR_b hh_22).2.2.2
              refine ⟨fun h => absurd (show (0 : Int) = (-1) from h) (by decide), fun _ => ?_⟩
              refine ⟨show 0 ≤ ((16 + kk9) : Int) ∧ (16 + kk9) < 32 from by omega, ?_⟩
              refine hO (c_isSignK (by omega) (show (rdR (mx [97, 98, fv 79 33, fv 79 22, fv 79 23, fv 79 24, fv 79 25, fv 79 34, fv 79 36, 99] (mx [fv 79 22, fv 79 23, fv 79 24, fv 79 25] (mx [97, 98, fv 79 33, fv 79 22, fv 79 23, fv 79 24, fv 79 25] (mx [fv 79 22, fv 79 23, fv 79 24, fv 79 25] (mx [97, 98, fv 79 33, fv 79 22, fv 79 23, fv 79 24, fv 79 25, fv 79 34, fv 79 36, 99, 94, 95, 96] f f1) f1_4) f1_7) f1_18) f1_21)) from by first | exact ha1 | exact hs1) (show 40 ≤ 59 ∧ 59 ≤ 62 from by decide) (fun (hh_31 : (kdR f) (f1_21 (fv 79 23) 0) = 59) => ?_) (fun (hh_32 : ¬ (kdR f) (f1_21 (fv 79 23) 0) = 59) => ?_))
              · refine ⟨fun h => absurd (show (1 : Int) = 0 from h) (by decide), fun _ => ?_⟩
                have hun : ¬ kdR f (f1_21 (fv 79 23) 0) = 0 → f1_21 (fv 79 23) 0 < nxR f (f1_21 (fv 79 23) 0) ∧ nxR f (f1_21 (fv 79 23) 0) ≤ f (fv 79 21) 0 := fun q => rdR_n ha1 q
                refine hO (c_next (by omega) (show (rdR (mx [97, 98, fv 79 33, fv 79 22, fv 79 23, fv 79 24, fv 79 25, fv 79 34, fv 79 36, 99] (mx [fv 79 22, fv 79 23, fv 79 24, fv 79 25] (mx [97, 98, fv 79 33, fv 79 22, fv 79 23, fv 79 24, fv 79 25] (mx [fv 79 22, fv 79 23, fv 79 24, fv 79 25] (mx [97, 98, fv 79 33, fv 79 22, fv 79 23, fv 79 24, fv 79 25, fv 79 34, fv 79 36, 99, 94, 95, 96] f f1) f1_4) f1_7) f1_18) f1_21)) from by first | exact ha1 | exact hs1) (fun f1_33 (hh_34 :  (rdR (mx [fv 79 22, fv 79 23, fv 79 24, fv 79 25] (mx [97, 98, fv 79 33, fv 79 22, fv 79 23, fv 79 24, fv 79 25, fv 79 34, fv 79 36, 99] (mx [fv 79 22, fv 79 23, fv 79 24, fv 79 25] (mx [97, 98, fv 79 33, fv 79 22, fv 79 23, fv 79 24, fv 79 25] (mx [fv 79 22, fv 79 23, fv 79 24, fv 79 25] (mx [97, 98, fv 79 33, fv 79 22, fv 79 23, fv 79 24, fv 79 25, fv 79 34, fv 79 36, 99, 94, 95, 96] f f1) f1_4) f1_7) f1_18) f1_21) f1_33))) (hh_35 : f1_33 (fv 79 23) 0 = (nxR f) (f1_21 (fv 79 23) 0)) => ?_))
                have hu1 := hh_34
                have hu2 := hh_35
                have hub : 0 ≤ f1_33 (fv 79 23) 0 ∧ f1_33 (fv 79 23) 0 ≤ f (fv 79 21) 0 := ⟨(rdR_b hh_34).1, (rdR_b hh_34).2.1⟩
                refine Or.inl ⟨show inr (kk9 + 1) from by constructor <;> omega, ?_⟩
                have qf : (mx [fv 79 22, fv 79 23, fv 79 24, fv 79 25] (wv (mx [97, 98, fv 79 33, fv 79 22, fv 79 23, fv 79 24, fv 79 25, fv 79 34, fv 79 36, 99] (mx [fv 79 22, fv 79 23, fv 79 24, fv 79 25] (wv (mx [97, 98, fv 79 33, fv 79 22, fv 79 23, fv 79 24, fv 79 25] (wv (mx [fv 79 22, fv 79 23, fv 79 24, fv 79 25] f1 f1_4) 95 (16 + kk9) (f1 (fv 79 33) 0)) f1_7) 94 (16 + kk9) (f1_7 (fv 79 33) 0)) f1_18) f1_21) 96 (16 + kk9) (f1_21 (fv 79 33) 0)) f1_33) (fv 79 23) 0 = _ := hu2
                have qn := hun (by omega)
                have qz : (mx [fv 79 22, fv 79 23, fv 79 24, fv 79 25] (wv (mx [97, 98, fv 79 33, fv 79 22, fv 79 23, fv 79 24, fv 79 25, fv 79 34, fv 79 36, 99] (mx [fv 79 22, fv 79 23, fv 79 24, fv 79 25] (wv (mx [97, 98, fv 79 33, fv 79 22, fv 79 23, fv 79 24, fv 79 25] (wv (mx [fv 79 22, fv 79 23, fv 79 24, fv 79 25] f1 f1_4) 95 (16 + kk9) (f1 (fv 79 33) 0)) f1_7) 94 (16 + kk9) (f1_7 (fv 79 33) 0)) f1_18) f1_21) 96 (16 + kk9) (f1_21 (fv 79 33) 0)) f1_33) (fv 79 33) 0 = f1_21 (fv 79 33) 0 := rfl
                have e94 : (mx [fv 79 22, fv 79 23, fv 79 24, fv 79 25] (wv (mx [97, 98, fv 79 33, fv 79 22, fv 79 23, fv 79 24, fv 79 25, fv 79 34, fv 79 36, 99] (mx [fv 79 22, fv 79 23, fv 79 24, fv 79 25] (wv (mx [97, 98, fv 79 33, fv 79 22, fv 79 23, fv 79 24, fv 79 25] (wv (mx [fv 79 22, fv 79 23, fv 79 24, fv 79 25] f1 f1_4) 95 (16 + kk9) (f1 (fv 79 33) 0)) f1_7) 94 (16 + kk9) (f1_7 (fv 79 33) 0)) f1_18) f1_21) 96 (16 + kk9) (f1_21 (fv 79 33) 0)) f1_33) 94 = up (f1 94) (16 + kk9) (f1_7 (fv 79 33) 0) := wv_up
                have e95 : (mx [fv 79 22, fv 79 23, fv 79 24, fv 79 25] (wv (mx [97, 98, fv 79 33, fv 79 22, fv 79 23, fv 79 24, fv 79 25, fv 79 34, fv 79 36, 99] (mx [fv 79 22, fv 79 23, fv 79 24, fv 79 25] (wv (mx [97, 98, fv 79 33, fv 79 22, fv 79 23, fv 79 24, fv 79 25] (wv (mx [fv 79 22, fv 79 23, fv 79 24, fv 79 25] f1 f1_4) 95 (16 + kk9) (f1 (fv 79 33) 0)) f1_7) 94 (16 + kk9) (f1_7 (fv 79 33) 0)) f1_18) f1_21) 96 (16 + kk9) (f1_21 (fv 79 33) 0)) f1_33) 95 = up (f1 95) (16 + kk9) (f1 (fv 79 33) 0) := wv_up
                have e96 : (mx [fv 79 22, fv 79 23, fv 79 24, fv 79 25] (wv (mx [97, 98, fv 79 33, fv 79 22, fv 79 23, fv 79 24, fv 79 25, fv 79 34, fv 79 36, 99] (mx [fv 79 22, fv 79 23, fv 79 24, fv 79 25] (wv (mx [97, 98, fv 79 33, fv 79 22, fv 79 23, fv 79 24, fv 79 25] (wv (mx [fv 79 22, fv 79 23, fv 79 24, fv 79 25] f1 f1_4) 95 (16 + kk9) (f1 (fv 79 33) 0)) f1_7) 94 (16 + kk9) (f1_7 (fv 79 33) 0)) f1_18) f1_21) 96 (16 + kk9) (f1_21 (fv 79 33) 0)) f1_33) 96 = up (f1 96) (16 + kk9) (f1_21 (fv 79 33) 0) := wv_up
                refine hB (401 - ((mx [fv 79 22, fv 79 23, fv 79 24, fv 79 25] (wv (mx [97, 98, fv 79 33, fv 79 22, fv 79 23, fv 79 24, fv 79 25, fv 79 34, fv 79 36, 99] (mx [fv 79 22, fv 79 23, fv 79 24, fv 79 25] (wv (mx [97, 98, fv 79 33, fv 79 22, fv 79 23, fv 79 24, fv 79 25] (wv (mx [fv 79 22, fv 79 23, fv 79 24, fv 79 25] f1 f1_4) 95 (16 + kk9) (f1 (fv 79 33) 0)) f1_7) 94 (16 + kk9) (f1_7 (fv 79 33) 0)) f1_18) f1_21) 96 (16 + kk9) (f1_21 (fv 79 33) 0)) f1_33) (fv 79 23) 0) : Int).toNat ?_ ⟨rfl, (kk9 + 1), (mx [fv 79 22, fv 79 23, fv 79 24, fv 79 25] (wv (mx [97, 98, fv 79 33, fv 79 22, fv 79 23, fv 79 24, fv 79 25, fv 79 34, fv 79 36, 99] (mx [fv 79 22, fv 79 23, fv 79 24, fv 79 25] (wv (mx [97, 98, fv 79 33, fv 79 22, fv 79 23, fv 79 24, fv 79 25] (wv (mx [fv 79 22, fv 79 23, fv 79 24, fv 79 25] f1 f1_4) 95 (16 + kk9) (f1 (fv 79 33) 0)) f1_7) 94 (16 + kk9) (f1_7 (fv 79 33) 0)) f1_18) f1_21) 96 (16 + kk9) (f1_21 (fv 79 33) 0)) f1_33), rfl, rfl, (mx_mx rfl (mx_wv rfl (mx_mx rfl (mx_mx rfl (mx_wv rfl (mx_mx rfl (mx_wv rfl (mx_mx rfl rfl)))))))), rfl, ?_, ?_, ?_, ?_, ?_, ?_, ?_, ?_, ?_⟩
                · omega
                · exact hu1
                · omega
                · rw [wlR_s hk.1 e94 e96, qf]
                  have hq := (r_t (r_t (r_t (r_t hR (r_t (q_0p (by omega) (by omega)) (by rw [← hn2]; exact r_0))) (r_t (hs2 20 [] (wlR (f1 94) (f1 96) kk9) (Or.inl (by decide))) q_6p)) (r_t (q_7w (by omega)) (by rw [← hv2]; exact r_0))) (ha2 _))
                  rw [slr_len hs0] at hq
                  have hq2 := r_t hq (q_16e (by omega))
                  rw [slr_len ha0] at hq2
                  exact hq2
                · omega
                · exact ha6
                · rw [e95, e96]
                  refine ⟨fun l h0 h1 => ?_, ?_⟩
                  · by_cases e : l = kk9
                    · rw [e, up_s, hfm.2]
                      split
                      · rfl
                      · rw [up_n (by omega)]
                    · rw [up_n (by omega), hfm.1 l h0 (by omega)]
                      split
                      · rfl
                      · rw [up_n (by omega)]
                  · rw [if_neg (by omega), show 15 + (kk9 + 1) = 16 + kk9 by omega, up_s]; exact qz
                · exact dfr_t (dfr_t hdf hs5) ha5
                · intro q hq
                  rw [e94, e95, e96, up_n (by omega), up_n (by omega), up_n (by omega)]
                  exact hlf q hq
                · omega
              · refine ⟨fun _ => ?_, fun h => absurd (show (0 : Int) = 0 from by decide) h⟩
                refine hO (c_errs (by omega) ?_)
                have hk := k1 ((wv (wv (wv (mx [97, 98, fv 79 33, fv 79 22, fv 79 23, fv 79 24, fv 79 25, fv 79 34, fv 79 36, 99] (mx [fv 79 22, fv 79 23, fv 79 24, fv 79 25] (wv (mx [97, 98, fv 79 33, fv 79 22, fv 79 23, fv 79 24, fv 79 25] (wv (mx [fv 79 22, fv 79 23, fv 79 24, fv 79 25] (mx [97, 98, fv 79 33, fv 79 22, fv 79 23, fv 79 24, fv 79 25, fv 79 34, fv 79 36, 99, 94, 95, 96] f f1) f1_4) 95 (16 + kk9) (f1 (fv 79 33) 0)) f1_7) 94 (16 + kk9) (f1_7 (fv 79 33) 0)) f1_18) f1_21) 96 (16 + kk9) (f1_21 (fv 79 33) 0)) (fv 79 37) 0 1) (fv 79 38) 0 (f1_21 (fv 79 23) 0))) (flt_r (r_t (r_t (r_t (r_t hR (r_t (q_0p (by omega) (by omega)) (by rw [← hn2]; exact r_0))) (r_t (hs2 20 [] (wlR (f1 94) (f1 96) kk9) (Or.inl (by decide))) q_6p)) (r_t (q_7w (by omega)) (by rw [← hv2]; exact r_0))) (ha2 _)) (flt_0 (q_16f (show ¬ kdR f (f1_21 (fv 79 23) 0) = 59 from by omega)))) (dfr_t (dfr_t hdf hs5) ha5) (fun q hq => ⟨by first | exact (hlf q hq).1 | exact (wv_k (by omega)).trans (hlf q hq).1, by first | exact (hlf q hq).2.1 | exact (wv_k (by omega)).trans (hlf q hq).2.1, by first | exact (hlf q hq).2.2 | exact (wv_k (by omega)).trans (hlf q hq).2.2⟩)
                rw [show mx [97, 98, fv 79 33, fv 79 22, fv 79 23, fv 79 24, fv 79 25, fv 79 34, fv 79 36, 99, 94, 95, 96, fv 79 37, fv 79 38] f (wv (wv (wv (mx [97, 98, fv 79 33, fv 79 22, fv 79 23, fv 79 24, fv 79 25, fv 79 34, fv 79 36, 99] (mx [fv 79 22, fv 79 23, fv 79 24, fv 79 25] (wv (mx [97, 98, fv 79 33, fv 79 22, fv 79 23, fv 79 24, fv 79 25] (wv (mx [fv 79 22, fv 79 23, fv 79 24, fv 79 25] (mx [97, 98, fv 79 33, fv 79 22, fv 79 23, fv 79 24, fv 79 25, fv 79 34, fv 79 36, 99, 94, 95, 96] f f1) f1_4) 95 (16 + kk9) (f1 (fv 79 33) 0)) f1_7) 94 (16 + kk9) (f1_7 (fv 79 33) 0)) f1_18) f1_21) 96 (16 + kk9) (f1_21 (fv 79 33) 0)) (fv 79 37) 0 1) (fv 79 38) 0 (f1_21 (fv 79 23) 0)) = (wv (wv (wv (mx [97, 98, fv 79 33, fv 79 22, fv 79 23, fv 79 24, fv 79 25, fv 79 34, fv 79 36, 99] (mx [fv 79 22, fv 79 23, fv 79 24, fv 79 25] (wv (mx [97, 98, fv 79 33, fv 79 22, fv 79 23, fv 79 24, fv 79 25] (wv (mx [fv 79 22, fv 79 23, fv 79 24, fv 79 25] (mx [97, 98, fv 79 33, fv 79 22, fv 79 23, fv 79 24, fv 79 25, fv 79 34, fv 79 36, 99, 94, 95, 96] f f1) f1_4) 95 (16 + kk9) (f1 (fv 79 33) 0)) f1_7) 94 (16 + kk9) (f1_7 (fv 79 33) 0)) f1_18) f1_21) 96 (16 + kk9) (f1_21 (fv 79 33) 0)) (fv 79 37) 0 1) (fv 79 38) 0 (f1_21 (fv 79 23) 0)) from ((mx_wv rfl (mx_wv rfl (mx_wv rfl (mx_mx rfl (mx_mx rfl (mx_wv rfl (mx_mx rfl (mx_wv rfl (mx_mx rfl (mx_mx rfl mx_rf))))))))))).symm] at hk
                exact hk
            · have hg1 := hh_29
              have hg2 := hh_30
              refine ⟨fun _ => ?_, fun h => absurd (show ((-1) : Int) = (-1) from by decide) h⟩
              have hk := k1 ((mx [97, 98, fv 79 33, fv 79 22, fv 79 23, fv 79 24, fv 79 25, fv 79 34, fv 79 36, 99, fv 79 37, fv 79 38] (mx [fv 79 22, fv 79 23, fv 79 24, fv 79 25] (wv (mx [97, 98, fv 79 33, fv 79 22, fv 79 23, fv 79 24, fv 79 25] (wv (mx [fv 79 22, fv 79 23, fv 79 24, fv 79 25] (mx [97, 98, fv 79 33, fv 79 22, fv 79 23, fv 79 24, fv 79 25, fv 79 34, fv 79 36, 99, 94, 95, 96] f f1) f1_4) 95 (16 + kk9) (f1 (fv 79 33) 0)) f1_7) 94 (16 + kk9) (f1_7 (fv 79 33) 0)) f1_18) f1_28)) (flt_r (r_t (r_t (r_t hR (r_t (q_0p (by omega) (by omega)) (by rw [← hn2]; exact r_0))) (r_t (hs2 20 [] (wlR (f1 94) (f1 96) kk9) (Or.inl (by decide))) q_6p)) (r_t (q_7w (by omega)) (by rw [← hv2]; exact r_0))) (hg1 _)) (dfr_t (dfr_t hdf hs5) hg2) (fun q hq => ⟨by first | exact (hlf q hq).1 | exact (wv_k (by omega)).trans (hlf q hq).1, by first | exact (hlf q hq).2.1 | exact (wv_k (by omega)).trans (hlf q hq).2.1, by first | exact (hlf q hq).2.2 | exact (wv_k (by omega)).trans (hlf q hq).2.2⟩)
              rw [show mx [97, 98, fv 79 33, fv 79 22, fv 79 23, fv 79 24, fv 79 25, fv 79 34, fv 79 36, 99, 94, 95, 96, fv 79 37, fv 79 38] f (mx [97, 98, fv 79 33, fv 79 22, fv 79 23, fv 79 24, fv 79 25, fv 79 34, fv 79 36, 99, fv 79 37, fv 79 38] (mx [fv 79 22, fv 79 23, fv 79 24, fv 79 25] (wv (mx [97, 98, fv 79 33, fv 79 22, fv 79 23, fv 79 24, fv 79 25] (wv (mx [fv 79 22, fv 79 23, fv 79 24, fv 79 25] (mx [97, 98, fv 79 33, fv 79 22, fv 79 23, fv 79 24, fv 79 25, fv 79 34, fv 79 36, 99, 94, 95, 96] f f1) f1_4) 95 (16 + kk9) (f1 (fv 79 33) 0)) f1_7) 94 (16 + kk9) (f1_7 (fv 79 33) 0)) f1_18) f1_28) = (mx [97, 98, fv 79 33, fv 79 22, fv 79 23, fv 79 24, fv 79 25, fv 79 34, fv 79 36, 99, fv 79 37, fv 79 38] (mx [fv 79 22, fv 79 23, fv 79 24, fv 79 25] (wv (mx [97, 98, fv 79 33, fv 79 22, fv 79 23, fv 79 24, fv 79 25] (wv (mx [fv 79 22, fv 79 23, fv 79 24, fv 79 25] (mx [97, 98, fv 79 33, fv 79 22, fv 79 23, fv 79 24, fv 79 25, fv 79 34, fv 79 36, 99, 94, 95, 96] f f1) f1_4) 95 (16 + kk9) (f1 (fv 79 33) 0)) f1_7) 94 (16 + kk9) (f1_7 (fv 79 33) 0)) f1_18) f1_28) from ((mx_mx rfl (mx_mx rfl (mx_wv rfl (mx_mx rfl (mx_wv rfl (mx_mx rfl (mx_mx rfl mx_rf)))))))).symm] at hk
              exact hk
          · refine ⟨fun _ => ?_, fun h => absurd (show (0 : Int) = 0 from by decide) h⟩
            refine ⟨show 0 ≤ ((16 + kk9) : Int) ∧ (16 + kk9) < 32 from by omega, ?_⟩
            refine hO (c_isSignK (by omega) (show (rdR (mx [97, 98, fv 79 33, fv 79 22, fv 79 23, fv 79 24, fv 79 25] (mx [fv 79 22, fv 79 23, fv 79 24, fv 79 25] (mx [97, 98, fv 79 33, fv 79 22, fv 79 23, fv 79 24, fv 79 25, fv 79 34, fv 79 36, 99, 94, 95, 96] f f1) f1_4) f1_7)) from by first | exact ha1 | exact hs1) (show 40 ≤ 59 ∧ 59 ≤ 62 from by decide) (fun (hh_36 : (kdR f) (f1_7 (fv 79 23) 0) = 59) => ?_) (fun (hh_37 : ¬ (kdR f) (f1_7 (fv 79 23) 0) = 59) => ?_))
            · refine ⟨fun h => absurd (show (1 : Int) = 0 from h) (by decide), fun _ => ?_⟩
              have hun : ¬ kdR f (f1_7 (fv 79 23) 0) = 0 → f1_7 (fv 79 23) 0 < nxR f (f1_7 (fv 79 23) 0) ∧ nxR f (f1_7 (fv 79 23) 0) ≤ f (fv 79 21) 0 := fun q => rdR_n hs1 q
              refine hO (c_next (by omega) (show (rdR (mx [97, 98, fv 79 33, fv 79 22, fv 79 23, fv 79 24, fv 79 25] (mx [fv 79 22, fv 79 23, fv 79 24, fv 79 25] (mx [97, 98, fv 79 33, fv 79 22, fv 79 23, fv 79 24, fv 79 25, fv 79 34, fv 79 36, 99, 94, 95, 96] f f1) f1_4) f1_7)) from by first | exact ha1 | exact hs1) (fun f1_38 (hh_39 :  (rdR (mx [fv 79 22, fv 79 23, fv 79 24, fv 79 25] (mx [97, 98, fv 79 33, fv 79 22, fv 79 23, fv 79 24, fv 79 25] (mx [fv 79 22, fv 79 23, fv 79 24, fv 79 25] (mx [97, 98, fv 79 33, fv 79 22, fv 79 23, fv 79 24, fv 79 25, fv 79 34, fv 79 36, 99, 94, 95, 96] f f1) f1_4) f1_7) f1_38))) (hh_40 : f1_38 (fv 79 23) 0 = (nxR f) (f1_7 (fv 79 23) 0)) => ?_))
              have hu1 := hh_39
              have hu2 := hh_40
              have hub : 0 ≤ f1_38 (fv 79 23) 0 ∧ f1_38 (fv 79 23) 0 ≤ f (fv 79 21) 0 := ⟨(rdR_b hh_39).1, (rdR_b hh_39).2.1⟩
              refine Or.inl ⟨show inr (kk9 + 1) from by constructor <;> omega, ?_⟩
              have qf : (mx [fv 79 22, fv 79 23, fv 79 24, fv 79 25] (wv (wv (mx [97, 98, fv 79 33, fv 79 22, fv 79 23, fv 79 24, fv 79 25] (wv (mx [fv 79 22, fv 79 23, fv 79 24, fv 79 25] f1 f1_4) 95 (16 + kk9) (f1 (fv 79 33) 0)) f1_7) 94 (16 + kk9) (f1_7 (fv 79 33) 0)) 96 (16 + kk9) (f1_7 (fv 79 33) 0)) f1_38) (fv 79 23) 0 = _ := hu2
              have qn := hun (by omega)
              have qz : (mx [fv 79 22, fv 79 23, fv 79 24, fv 79 25] (wv (wv (mx [97, 98, fv 79 33, fv 79 22, fv 79 23, fv 79 24, fv 79 25] (wv (mx [fv 79 22, fv 79 23, fv 79 24, fv 79 25] f1 f1_4) 95 (16 + kk9) (f1 (fv 79 33) 0)) f1_7) 94 (16 + kk9) (f1_7 (fv 79 33) 0)) 96 (16 + kk9) (f1_7 (fv 79 33) 0)) f1_38) (fv 79 33) 0 = f1_7 (fv 79 33) 0 := rfl
              have e94 : (mx [fv 79 22, fv 79 23, fv 79 24, fv 79 25] (wv (wv (mx [97, 98, fv 79 33, fv 79 22, fv 79 23, fv 79 24, fv 79 25] (wv (mx [fv 79 22, fv 79 23, fv 79 24, fv 79 25] f1 f1_4) 95 (16 + kk9) (f1 (fv 79 33) 0)) f1_7) 94 (16 + kk9) (f1_7 (fv 79 33) 0)) 96 (16 + kk9) (f1_7 (fv 79 33) 0)) f1_38) 94 = up (f1 94) (16 + kk9) (f1_7 (fv 79 33) 0) := wv_up
              have e95 : (mx [fv 79 22, fv 79 23, fv 79 24, fv 79 25] (wv (wv (mx [97, 98, fv 79 33, fv 79 22, fv 79 23, fv 79 24, fv 79 25] (wv (mx [fv 79 22, fv 79 23, fv 79 24, fv 79 25] f1 f1_4) 95 (16 + kk9) (f1 (fv 79 33) 0)) f1_7) 94 (16 + kk9) (f1_7 (fv 79 33) 0)) 96 (16 + kk9) (f1_7 (fv 79 33) 0)) f1_38) 95 = up (f1 95) (16 + kk9) (f1 (fv 79 33) 0) := wv_up
              have e96 : (mx [fv 79 22, fv 79 23, fv 79 24, fv 79 25] (wv (wv (mx [97, 98, fv 79 33, fv 79 22, fv 79 23, fv 79 24, fv 79 25] (wv (mx [fv 79 22, fv 79 23, fv 79 24, fv 79 25] f1 f1_4) 95 (16 + kk9) (f1 (fv 79 33) 0)) f1_7) 94 (16 + kk9) (f1_7 (fv 79 33) 0)) 96 (16 + kk9) (f1_7 (fv 79 33) 0)) f1_38) 96 = up (f1 96) (16 + kk9) (f1_7 (fv 79 33) 0) := wv_up
              refine hB (401 - ((mx [fv 79 22, fv 79 23, fv 79 24, fv 79 25] (wv (wv (mx [97, 98, fv 79 33, fv 79 22, fv 79 23, fv 79 24, fv 79 25] (wv (mx [fv 79 22, fv 79 23, fv 79 24, fv 79 25] f1 f1_4) 95 (16 + kk9) (f1 (fv 79 33) 0)) f1_7) 94 (16 + kk9) (f1_7 (fv 79 33) 0)) 96 (16 + kk9) (f1_7 (fv 79 33) 0)) f1_38) (fv 79 23) 0) : Int).toNat ?_ ⟨rfl, (kk9 + 1), (mx [fv 79 22, fv 79 23, fv 79 24, fv 79 25] (wv (wv (mx [97, 98, fv 79 33, fv 79 22, fv 79 23, fv 79 24, fv 79 25] (wv (mx [fv 79 22, fv 79 23, fv 79 24, fv 79 25] f1 f1_4) 95 (16 + kk9) (f1 (fv 79 33) 0)) f1_7) 94 (16 + kk9) (f1_7 (fv 79 33) 0)) 96 (16 + kk9) (f1_7 (fv 79 33) 0)) f1_38), rfl, rfl, (mx_mx rfl (mx_wv rfl (mx_wv rfl (mx_mx rfl (mx_wv rfl (mx_mx rfl rfl)))))), rfl, ?_, ?_, ?_, ?_, ?_, ?_, ?_, ?_, ?_⟩
              · omega
              · exact hu1
              · omega
              · rw [wlR_s hk.1 e94 e96, qf]
                have hq := (r_t (r_t (r_t hR (r_t (q_0p (by omega) (by omega)) (by rw [← hn2]; exact r_0))) (r_t (hs2 20 [] (wlR (f1 94) (f1 96) kk9) (Or.inl (by decide))) q_6p)) (q_7e (by omega)))
                rw [slr_len hs0] at hq
                have hq2 := r_t hq (q_16e (by omega))
                rw [slr_len hs0] at hq2
                exact hq2
              · omega
              · exact ho
              · rw [e95, e96]
                refine ⟨fun l h0 h1 => ?_, ?_⟩
                · by_cases e : l = kk9
                  · rw [e, up_s, hfm.2]
                    split
                    · rfl
                    · rw [up_n (by omega)]
                  · rw [up_n (by omega), hfm.1 l h0 (by omega)]
                    split
                    · rfl
                    · rw [up_n (by omega)]
                · rw [if_neg (by omega), show 15 + (kk9 + 1) = 16 + kk9 by omega, up_s]; exact qz
              · exact dfr_t hdf hs5
              · intro q hq
                rw [e94, e95, e96, up_n (by omega), up_n (by omega), up_n (by omega)]
                exact hlf q hq
              · omega
            · refine ⟨fun _ => ?_, fun h => absurd (show (0 : Int) = 0 from by decide) h⟩
              refine hO (c_errs (by omega) ?_)
              have hk := k1 ((wv (wv (wv (wv (mx [97, 98, fv 79 33, fv 79 22, fv 79 23, fv 79 24, fv 79 25] (wv (mx [fv 79 22, fv 79 23, fv 79 24, fv 79 25] (mx [97, 98, fv 79 33, fv 79 22, fv 79 23, fv 79 24, fv 79 25, fv 79 34, fv 79 36, 99, 94, 95, 96] f f1) f1_4) 95 (16 + kk9) (f1 (fv 79 33) 0)) f1_7) 94 (16 + kk9) (f1_7 (fv 79 33) 0)) 96 (16 + kk9) (f1_7 (fv 79 33) 0)) (fv 79 37) 0 1) (fv 79 38) 0 (f1_7 (fv 79 23) 0))) (flt_r (r_t (r_t (r_t hR (r_t (q_0p (by omega) (by omega)) (by rw [← hn2]; exact r_0))) (r_t (hs2 20 [] (wlR (f1 94) (f1 96) kk9) (Or.inl (by decide))) q_6p)) (q_7e (by omega))) (flt_0 (q_16f (show ¬ kdR f (f1_7 (fv 79 23) 0) = 59 from by omega)))) (dfr_t hdf hs5) (fun q hq => ⟨by first | exact (hlf q hq).1 | exact (wv_k (by omega)).trans (hlf q hq).1, by first | exact (hlf q hq).2.1 | exact (wv_k (by omega)).trans (hlf q hq).2.1, by first | exact (hlf q hq).2.2 | exact (wv_k (by omega)).trans (hlf q hq).2.2⟩)
              rw [show mx [97, 98, fv 79 33, fv 79 22, fv 79 23, fv 79 24, fv 79 25, fv 79 34, fv 79 36, 99, 94, 95, 96, fv 79 37, fv 79 38] f (wv (wv (wv (wv (mx [97, 98, fv 79 33, fv 79 22, fv 79 23, fv 79 24, fv 79 25] (wv (mx [fv 79 22, fv 79 23, fv 79 24, fv 79 25] (mx [97, 98, fv 79 33, fv 79 22, fv 79 23, fv 79 24, fv 79 25, fv 79 34, fv 79 36, 99, 94, 95, 96] f f1) f1_4) 95 (16 + kk9) (f1 (fv 79 33) 0)) f1_7) 94 (16 + kk9) (f1_7 (fv 79 33) 0)) 96 (16 + kk9) (f1_7 (fv 79 33) 0)) (fv 79 37) 0 1) (fv 79 38) 0 (f1_7 (fv 79 23) 0)) = (wv (wv (wv (wv (mx [97, 98, fv 79 33, fv 79 22, fv 79 23, fv 79 24, fv 79 25] (wv (mx [fv 79 22, fv 79 23, fv 79 24, fv 79 25] (mx [97, 98, fv 79 33, fv 79 22, fv 79 23, fv 79 24, fv 79 25, fv 79 34, fv 79 36, 99, 94, 95, 96] f f1) f1_4) 95 (16 + kk9) (f1 (fv 79 33) 0)) f1_7) 94 (16 + kk9) (f1_7 (fv 79 33) 0)) 96 (16 + kk9) (f1_7 (fv 79 33) 0)) (fv 79 37) 0 1) (fv 79 38) 0 (f1_7 (fv 79 23) 0)) from ((mx_wv rfl (mx_wv rfl (mx_wv rfl (mx_wv rfl (mx_mx rfl (mx_wv rfl (mx_mx rfl (mx_mx rfl mx_rf))))))))).symm] at hk
              exact hk
        · have hf1 := hh_14
          have hf2 := hh_15
          refine ⟨fun _ => ?_, fun h => absurd (show ((-1) : Int) = (-1) from by decide) h⟩
          have hk := k1 ((mx [97, 98, fv 79 33, fv 79 22, fv 79 23, fv 79 24, fv 79 25, fv 79 37, fv 79 38] (wv (mx [fv 79 22, fv 79 23, fv 79 24, fv 79 25] (mx [97, 98, fv 79 33, fv 79 22, fv 79 23, fv 79 24, fv 79 25, fv 79 34, fv 79 36, 99, 94, 95, 96] f f1) f1_4) 95 (16 + kk9) (f1 (fv 79 33) 0)) f1_13)) (flt_r (r_t hR (r_t (q_0p (by omega) (by omega)) (by rw [← hn2]; exact r_0))) (hf1 20 [] _ (Or.inl (by decide)))) (dfr_t hdf hf2) (fun q hq => ⟨by first | exact (hlf q hq).1 | exact (wv_k (by omega)).trans (hlf q hq).1, by first | exact (hlf q hq).2.1 | exact (wv_k (by omega)).trans (hlf q hq).2.1, by first | exact (hlf q hq).2.2 | exact (wv_k (by omega)).trans (hlf q hq).2.2⟩)
          rw [show mx [97, 98, fv 79 33, fv 79 22, fv 79 23, fv 79 24, fv 79 25, fv 79 34, fv 79 36, 99, 94, 95, 96, fv 79 37, fv 79 38] f (mx [97, 98, fv 79 33, fv 79 22, fv 79 23, fv 79 24, fv 79 25, fv 79 37, fv 79 38] (wv (mx [fv 79 22, fv 79 23, fv 79 24, fv 79 25] (mx [97, 98, fv 79 33, fv 79 22, fv 79 23, fv 79 24, fv 79 25, fv 79 34, fv 79 36, 99, 94, 95, 96] f f1) f1_4) 95 (16 + kk9) (f1 (fv 79 33) 0)) f1_13) = (mx [97, 98, fv 79 33, fv 79 22, fv 79 23, fv 79 24, fv 79 25, fv 79 37, fv 79 38] (wv (mx [fv 79 22, fv 79 23, fv 79 24, fv 79 25] (mx [97, 98, fv 79 33, fv 79 22, fv 79 23, fv 79 24, fv 79 25, fv 79 34, fv 79 36, 99, 94, 95, 96] f f1) f1_4) 95 (16 + kk9) (f1 (fv 79 33) 0)) f1_13) from ((mx_mx rfl (mx_wv rfl (mx_mx rfl (mx_mx rfl mx_rf))))).symm] at hk
          exact hk
    · refine ⟨fun _ => ?_, fun h => absurd (show (0 : Int) = 0 from by decide) h⟩
      have htv : ((kdR f (f1 (fv 79 23) 0) = 0 ∧ f1 (fv 79 24) 0 = 0) ∨ (kdR f (f1 (fv 79 23) 0) = 1 ∧ f1 (fv 79 24) 0 = 1) ∨ (3 ≤ kdR f (f1 (fv 79 23) 0) ∧ kdR f (f1 (fv 79 23) 0) ≤ 16 ∧ f1 (fv 79 24) 0 = 2 ∧ f1 (fv 79 25) 0 = kdR f (f1 (fv 79 23) 0) - 3) ∨ (1000 ≤ kdR f (f1 (fv 79 23) 0) ∧ kdR f (f1 (fv 79 23) 0) ≤ 10999 ∧ f1 (fv 79 24) 0 = 3 ∧ f1 (fv 79 25) 0 = kdR f (f1 (fv 79 23) 0) - 1000) ∨ (40 ≤ kdR f (f1 (fv 79 23) 0) ∧ kdR f (f1 (fv 79 23) 0) ≤ 62 ∧ f1 (fv 79 24) 0 = 4 ∧ f1 (fv 79 25) 0 = kdR f (f1 (fv 79 23) 0))) := rdR_t hrd1
      have htz : f1 (fv 79 24) 0 = 0 ↔ kdR f (f1 (fv 79 23) 0) = 0 := by omega
      clear htv
      refine ⟨fun (hh_41 : f1 (fv 79 24) 0 = 0) => ?_, fun (hh_41 : ¬ f1 (fv 79 24) 0 = 0) => ?_⟩
      · have hk9 := k0 kk9 f1 hrd1 (r_t hR (q_0e (by omega))) hk (by omega) hfm.1 hdf hlf
        exact hk9
      · refine hO (c_errs (by omega) ?_)
        have hk := k1 ((wv (wv (mx [97, 98, fv 79 33, fv 79 22, fv 79 23, fv 79 24, fv 79 25, fv 79 34, fv 79 36, 99, 94, 95, 96] f f1) (fv 79 37) 0 1) (fv 79 38) 0 (f1 (fv 79 23) 0))) (flt_r hR (flt_0 (q_0f (show ¬ kdR f (f1 (fv 79 23) 0) = 0 from by omega) (by omega)))) hdf hlf
        rw [show mx [97, 98, fv 79 33, fv 79 22, fv 79 23, fv 79 24, fv 79 25, fv 79 34, fv 79 36, 99, 94, 95, 96, fv 79 37, fv 79 38] f (wv (wv (mx [97, 98, fv 79 33, fv 79 22, fv 79 23, fv 79 24, fv 79 25, fv 79 34, fv 79 36, 99, 94, 95, 96] f f1) (fv 79 37) 0 1) (fv 79 38) 0 (f1 (fv 79 23) 0)) = (wv (wv (mx [97, 98, fv 79 33, fv 79 22, fv 79 23, fv 79 24, fv 79 25, fv 79 34, fv 79 36, 99, 94, 95, 96] f f1) (fv 79 37) 0 1) (fv 79 38) 0 (f1 (fv 79 23) 0)) from ((mx_wv rfl (mx_wv rfl (mx_mx rfl mx_rf)))).symm] at hk
        exact hk
  · have hb0 := rdR_b hrd
    have qf : True := trivial
    refine hF (401 - (f (fv 79 23) 0) : Int).toNat ?_ ⟨rfl, 0, f, rfl, rfl, mx_rf, rfl, ?_, ?_, ?_, ?_, ?_, ?_, ?_, ?_, ?_⟩
    · omega
    · exact hrd
    · omega
    · rw [show sl (rcd f) 400 (400 + f (fv 79 33) 0) = [] from sl_nil (by omega)]; exact r_0
    · omega
    · exact hop0
    · exact ⟨fun l h0 h1 => by omega, by rw [if_pos rfl]; exact hc0⟩
    · exact dfr_0 rfl rfl
    · exact lfr_0 rfl rfl rfl
    · omega
end C47
