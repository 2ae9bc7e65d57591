section C41
variable {d : Nat} {f : iF} {g : iG} {Q : Option iv → iF → iG → Prop}
/-! ===== the class: lines of a text ===== -/
theorem k_choice {op9 : Int} (hd : 29 ≤ d) (hrd : (rdC f)) (hsz : (f (fv 42 3) 0) ≤ ((f 47 (f (fv 41 6) 0)))) (hop : op9 = 0) (k0 : ∀ f1 : iF, ( (rdC (mx [43, fv 42 3, fv 42 5, fv 41 6, fv 41 7] f f1))) → (∀ x K W, (x = 22 ∨ x = 12) → opn (x :: K) = op9 → Rch (kdC f) (nxC f) (8, x :: K, ((f 47 (f (fv 41 6) 0))), (sl (f 43) 0 (f (fv 42 3) 0)), W) (14, x :: K, ((f 47 (f1 (fv 41 6) 0))), (sl (f1 43) 0 (f1 (fv 42 3) 0)), W)) → (f1 (fv 42 3) 0 - ((f 47 (f1 (fv 41 6) 0))) ≤ (f (fv 42 3) 0) - ((f 47 (f (fv 41 6) 0)))) → (((f 47 (f (fv 41 6) 0))) < ((f 47 (f1 (fv 41 6) 0)))) → Q (some (iI 1)) (mx [43, fv 42 3, fv 42 5, fv 41 6, fv 41 7] f f1) g) (k1 : ∀ f1 : iF, (∀ x K W, (x = 22 ∨ x = 12) → opn (x :: K) = op9 → flt (kdC f) (nxC f) (8, x :: K, ((f 47 (f (fv 41 6) 0))), (sl (f 43) 0 (f (fv 42 3) 0)), W) (f1 (fv 41 1) 0) (f1 (fv 41 2) 0)) → Q (some (iI 0)) (mx [43, fv 42 3, fv 42 5, fv 41 1, fv 41 2, fv 41 6, fv 41 7] f f1) g) : wq d 132 [iR 41, iI op9] f g Q := (k_all 8 (by omega)).2 (by omega) hrd hsz (by omega) k0 k1
/-- the ends of the lines: of what is paid, of the line -/
def wlN (cn st : Int → Int) : Nat → List Int
  | 0 => []
  | n + 1 => wlN cn st n ++ [cn (n : Int)] ++ [st ((n : Int) + 1)]
def wlI (cn st : Int → Int) (n : Int) : List Int := wlN cn st n.toNat
theorem wlN_cg {cn st cn' st' : Int → Int} : ∀ n : Nat, (∀ k, 0 ≤ k → k < n → cn k = cn' k ∧ st (k + 1) = st' (k + 1)) → wlN cn st n = wlN cn' st' n
  | 0, _ => rfl
  | n + 1, h => by rw [wlN, wlN, wlN_cg n (fun k k0 k1 => h k k0 (by omega)), (h n (by omega) (by omega)).1, (h n (by omega) (by omega)).2]
theorem wlN_len {cn st : Int → Int} : ∀ n : Nat, (wlN cn st n).length = 2 * n
  | 0 => rfl
  | n + 1 => by rw [wlN, List.length_append, List.length_append, wlN_len n]; simp; omega
theorem wlI_len {cn st : Int → Int} {n : Int} (h : 0 ≤ n) : ((wlI cn st n).length : Int) = 2 * n := by unfold wlI; rw [wlN_len]; omega
theorem slN_len {c : Int → Int} : ∀ (m : Nat) (a : Int), (slN c m a).length = m
  | 0, _ => rfl
  | m + 1, a => by rw [slN, List.length_cons, slN_len m]
theorem sl_len {c : Int → Int} {n : Int} (h : 0 ≤ n) : ((sl c 0 n).length : Int) = n := by unfold sl; rw [slN_len]; omega
theorem wlI_s {cn st : Int → Int} {n a b : Int} (h : 0 ≤ n) : wlI (up cn n a) (up st (n + 1) b) (n + 1) = wlI cn st n ++ [a] ++ [b] := by
  unfold wlI
  rw [show (n + 1).toNat = n.toNat + 1 by omega, wlN, show ((n.toNat : Nat) : Int) = n by omega, up_s, up_s]
  rw [wlN_cg n.toNat (fun k k0 k1 => ⟨up_n (by omega), up_n (by omega)⟩)]
set_option maxRecDepth 100000 in
set_option maxHeartbeats 4000000 in
theorem k_endPay (hd : 1 ≤ d) (hl : 0 ≤ (f (fv 42 4) 0) ∧ (f (fv 42 4) 0) < 16) (k0 : Q none (wv f 45 (f (fv 42 4) 0) (f (fv 42 3) 0)) g) : wq d 114 [iR 42] f g Q := by
  obtain ⟨d, rfl⟩ : ∃ e, d = e + 1 := ⟨d - 1, by omega⟩
  refine i_meth0 rfl rfl (fun O J hO => ?_)
  refine ⟨fun h => absurd (show f (fv 42 4) 0 < 0 from h) (by omega), fun _ => ?_⟩
  refine ⟨fun _ => ?_, fun h => absurd (show f (fv 42 4) 0 < 16 from by omega) h⟩
  refine ⟨show 0 ≤ (f (fv 42 4) 0 : Int) ∧ f (fv 42 4) 0 < 16 from by omega, ?_⟩
  exact k0
set_option maxRecDepth 100000 in
set_option maxHeartbeats 4000000 in
theorem k_endLine (hd : 1 ≤ d) (hl : 0 ≤ (f (fv 42 4) 0) ∧ (f (fv 42 4) 0) < 16) (k0 : Q none (wv (wv f (fv 42 4) 0 ((f (fv 42 4) 0) + 1)) 44 ((f (fv 42 4) 0) + 1) (f (fv 42 3) 0)) g) : wq d 115 [iR 42] f g Q := by
  obtain ⟨d, rfl⟩ : ∃ e, d = e + 1 := ⟨d - 1, by omega⟩
  refine i_meth0 rfl rfl (fun O J hO => ?_)
  refine ⟨fun h => absurd (show f (fv 42 4) 0 < 0 from h) (by omega), fun _ => ?_⟩
  refine ⟨fun _ => ?_, fun h => absurd (show f (fv 42 4) 0 < 16 from by omega) h⟩
  refine Or.inl ⟨show inr ((f (fv 42 4) 0) + 1) from by constructor <;> omega, ?_⟩
  refine ⟨show 0 ≤ (((f (fv 42 4) 0) + 1) : Int) ∧ ((f (fv 42 4) 0) + 1) < 17 from by omega, ?_⟩
  exact k0
set_option maxRecDepth 100000 in
set_option maxHeartbeats 4000000 in
theorem k_line (hd : 30 ≤ d) (hrd : (rdC f)) (hsz : (f (fv 42 3) 0) ≤ ((f 47 (f (fv 41 6) 0)))) (hli : 0 ≤ (f (fv 42 4) 0) ∧ (f (fv 42 4) 0) ≤ 16) (hk0 : ¬ (f (fv 41 7) 0) = 0) (k0 : ∀ f1 : iF, ( (rdC (mx [43, fv 42 3, fv 42 5, fv 41 6, fv 41 7, fv 42 4, 44, 45] f f1))) → (Rch (kdC f) (nxC f) (0, [], ((f 47 (f (fv 41 6) 0))), (sl (f 43) 0 (f (fv 42 3) 0)), (wlI (f 45) (f 44) (f (fv 42 4) 0))) (0, [], ((f 47 (f1 (fv 41 6) 0))), (sl (f1 43) 0 (f1 (fv 42 3) 0)), (wlI (f1 45) (f1 44) (f1 (fv 42 4) 0)))) → (f1 (fv 42 3) 0 - ((f 47 (f1 (fv 41 6) 0))) ≤ (f (fv 42 3) 0) - ((f 47 (f (fv 41 6) 0)))) → (((f 47 (f (fv 41 6) 0))) < ((f 47 (f1 (fv 41 6) 0)))) → (f1 (fv 42 4) 0 = (f (fv 42 4) 0) + 1 ∧ (f (fv 42 4) 0) < 16) → (f1 44 0 = (f 44 0)) → Q (some (iI 1)) (mx [43, fv 42 3, fv 42 5, fv 41 6, fv 41 7, fv 42 4, 44, 45] f f1) g) (k1 : ∀ f1 : iF, (flt (kdC f) (nxC f) (0, [], ((f 47 (f (fv 41 6) 0))), (sl (f 43) 0 (f (fv 42 3) 0)), (wlI (f 45) (f 44) (f (fv 42 4) 0))) (f1 (fv 41 1) 0) (f1 (fv 41 2) 0)) → (f1 44 0 = (f 44 0)) → Q (some (iI 0)) (mx [43, fv 42 3, fv 42 5, fv 41 1, fv 41 2, fv 41 6, fv 41 7, fv 42 4, 44, 45] f f1) g) : wq d 131 [iR 41] f g Q := by
  obtain ⟨d, rfl⟩ : ∃ e, d = e + 1 := ⟨d - 1, by omega⟩
  refine i_meth0 rfl rfl (fun O J hO => ?_)
  have hb0 := rdC_b hrd
  have hkd0 := rdC_k hrd
  have hki := kdP_r (t := f 40) (len := f (fv 39 1) 0) (a := f 47 (f (fv 41 6) 0))
  rw [show kdP (f 40) (f (fv 39 1) 0) (f 47 (f (fv 41 6) 0)) = f (fv 41 7) 0 from hkd0.symm] at hki
  refine ⟨fun (hh_1 : f (fv 41 7) 0 = 3) => ?_, fun (hh_1 : ¬ f (fv 41 7) 0 = 3) => ?_⟩
  · refine ⟨fun (hh_2 : f (fv 42 4) 0 < 16) => ?_, fun (hh_2 : ¬ f (fv 42 4) 0 < 16) => ?_⟩
    · refine hO (k_step (by omega) (show (rdC f) from hrd) (show ¬ (f (fv 41 7) 0) = 0 from by omega) (fun f1_3 (hh_4 :  (rdC (mx [fv 41 6, fv 41 7] f f1_3))) (hh_5 : ((f 47 (f1_3 (fv 41 6) 0))) = (nxC f) ((f 47 (f (fv 41 6) 0)))) (hh_6 : ((f 47 (f (fv 41 6) 0))) < (nxC f) ((f 47 (f (fv 41 6) 0)))) => ?_))
      have hs1 := hh_4
      have hs2 := hh_5
      have hs3 := hh_6
      have hsb : f 47 (f1_3 (fv 41 6) 0) ≤ f (fv 39 1) 0 := (rdC_b hh_4).2.1
      have hsk : f1_3 (fv 41 7) 0 = kdC f (f 47 (f1_3 (fv 41 6) 0)) := rdC_k hh_4
      refine hO (k_sum (by omega) (show (rdC (mx [fv 41 6, fv 41 7] f f1_3)) from hs1) (show (f (fv 42 3) 0) ≤ ((f 47 (f1_3 (fv 41 6) 0))) from by omega) (fun f1_7 (hh_8 :  (rdC (mx [43, fv 42 3, fv 42 5, fv 41 6, fv 41 7] (mx [fv 41 6, fv 41 7] f f1_3) f1_7))) (hh_9 : ∀ x K W, okx x → Rch (kdC f) (nxC f) (1, x :: K, ((f 47 (f1_3 (fv 41 6) 0))), (sl (f 43) 0 (f (fv 42 3) 0)), W) (6, x :: K, ((f 47 (f1_7 (fv 41 6) 0))), (sl (f1_7 43) 0 (f1_7 (fv 42 3) 0)), W)) (hh_10 : f1_7 (fv 42 3) 0 - ((f 47 (f1_7 (fv 41 6) 0))) ≤ (f (fv 42 3) 0) - ((f 47 (f1_3 (fv 41 6) 0)))) (hh_11 : ((f 47 (f1_3 (fv 41 6) 0))) < ((f 47 (f1_7 (fv 41 6) 0)))) => ?_) (fun f1_12 (hh_13 : ∀ x K W, okx x → flt (kdC f) (nxC f) (1, x :: K, ((f 47 (f1_3 (fv 41 6) 0))), (sl (f 43) 0 (f (fv 42 3) 0)), W) (f1_12 (fv 41 1) 0) (f1_12 (fv 41 2) 0)) => ?_))
      · have hc1 := hh_8
        have hc2 := hh_9
        have hc3 := hh_10
        have hc4 := hh_11
        have hcb : f 47 (f1_7 (fv 41 6) 0) ≤ f (fv 39 1) 0 := (rdC_b hh_8).2.1
        have hck : f1_7 (fv 41 7) 0 = kdC f (f 47 (f1_7 (fv 41 6) 0)) := rdC_k hh_8
        have hc0 : 0 ≤ f1_7 (fv 42 3) 0 := (rdC_b hh_8).2.2.2.2.2
        refine ⟨fun h => absurd (show (1 : Int) = 0 from h) (by decide), fun _ => ?_⟩
        refine hO (k_endPay (by omega) (show 0 ≤ (f (fv 42 4) 0) ∧ (f (fv 42 4) 0) < 16 from by omega) ?_)
        refine ⟨fun (hh_14 : f1_7 (fv 41 7) 0 = 4) => ?_, fun (hh_14 : ¬ f1_7 (fv 41 7) 0 = 4) => ?_⟩
        · refine hO (k_step (by omega) (show (rdC (mx [43, fv 42 3, fv 42 5, fv 41 6, fv 41 7] (mx [fv 41 6, fv 41 7] f f1_3) f1_7)) from hc1) (show ¬ (f1_7 (fv 41 7) 0) = 0 from by omega) (fun f1_15 (hh_16 :  (rdC (mx [fv 41 6, fv 41 7] (mx [43, fv 42 3, fv 42 5, fv 41 6, fv 41 7] (mx [fv 41 6, fv 41 7] f f1_3) f1_7) f1_15))) (hh_17 : ((f 47 (f1_15 (fv 41 6) 0))) = (nxC f) ((f 47 (f1_7 (fv 41 6) 0)))) (hh_18 : ((f 47 (f1_7 (fv 41 6) 0))) < (nxC f) ((f 47 (f1_7 (fv 41 6) 0)))) => ?_))
          have ht1 := hh_16
          have ht2 := hh_17
          have ht3 := hh_18
          have htb : f 47 (f1_15 (fv 41 6) 0) ≤ f (fv 39 1) 0 := (rdC_b hh_16).2.1
          have htk : f1_15 (fv 41 7) 0 = kdC f (f 47 (f1_15 (fv 41 6) 0)) := rdC_k hh_16
          refine hO (k_choice (by omega) (show (rdC (mx [fv 41 6, fv 41 7] (mx [43, fv 42 3, fv 42 5, fv 41 6, fv 41 7] (mx [fv 41 6, fv 41 7] f f1_3) f1_7) f1_15)) from ht1) (show (f1_7 (fv 42 3) 0) ≤ ((f 47 (f1_15 (fv 41 6) 0))) from by omega) (show 0 = 0 from rfl) (fun f1_19 (hh_20 :  (rdC (mx [43, fv 42 3, fv 42 5, fv 41 6, fv 41 7] (mx [fv 41 6, fv 41 7] (mx [43, fv 42 3, fv 42 5, fv 41 6, fv 41 7] (mx [fv 41 6, fv 41 7] f f1_3) f1_7) f1_15) f1_19))) (hh_21 : ∀ x K W, (x = 22 ∨ x = 12) → opn (x :: K) = 0 → Rch (kdC f) (nxC f) (8, x :: K, ((f 47 (f1_15 (fv 41 6) 0))), (sl (f1_7 43) 0 (f1_7 (fv 42 3) 0)), W) (14, x :: K, ((f 47 (f1_19 (fv 41 6) 0))), (sl (f1_19 43) 0 (f1_19 (fv 42 3) 0)), W)) (hh_22 : f1_19 (fv 42 3) 0 - ((f 47 (f1_19 (fv 41 6) 0))) ≤ (f1_7 (fv 42 3) 0) - ((f 47 (f1_15 (fv 41 6) 0)))) (hh_23 : ((f 47 (f1_15 (fv 41 6) 0))) < ((f 47 (f1_19 (fv 41 6) 0)))) => ?_) (fun f1_24 (hh_25 : ∀ x K W, (x = 22 ∨ x = 12) → opn (x :: K) = 0 → flt (kdC f) (nxC f) (8, x :: K, ((f 47 (f1_15 (fv 41 6) 0))), (sl (f1_7 43) 0 (f1_7 (fv 42 3) 0)), W) (f1_24 (fv 41 1) 0) (f1_24 (fv 41 2) 0)) => ?_))
          · have hd1 := hh_20
            have hd2 := hh_21
            have hd3 := hh_22
            have hd4 := hh_23
            have hdb : f 47 (f1_19 (fv 41 6) 0) ≤ f (fv 39 1) 0 := (rdC_b hh_20).2.1
            have hdk : f1_19 (fv 41 7) 0 = kdC f (f 47 (f1_19 (fv 41 6) 0)) := rdC_k hh_20
            have hl0 : 0 ≤ f1_19 (fv 42 3) 0 := (rdC_b hh_20).2.2.2.2.2
            refine ⟨fun h => absurd (show (1 : Int) = 0 from h) (by decide), fun _ => ?_⟩
            refine ⟨fun (hh_26 : f1_19 (fv 41 7) 0 = 59) => ?_, fun (hh_26 : ¬ f1_19 (fv 41 7) 0 = 59) => ?_⟩
            · refine hO (k_endLine (by omega) (show 0 ≤ (f (fv 42 4) 0) ∧ (f (fv 42 4) 0) < 16 from by omega) ?_)
              refine hO (k_step (by omega) (show (rdC (mx [43, fv 42 3, fv 42 5, fv 41 6, fv 41 7] (mx [fv 41 6, fv 41 7] (mx [43, fv 42 3, fv 42 5, fv 41 6, fv 41 7] (mx [fv 41 6, fv 41 7] f f1_3) f1_7) f1_15) f1_19)) from by first | exact hd1 | exact hc1) (show ¬ (f1_19 (fv 41 7) 0) = 0 from by omega) (fun f1_27 (hh_28 :  (rdC (mx [fv 41 6, fv 41 7] (mx [43, fv 42 3, fv 42 5, fv 41 6, fv 41 7] (mx [fv 41 6, fv 41 7] (mx [43, fv 42 3, fv 42 5, fv 41 6, fv 41 7] (mx [fv 41 6, fv 41 7] f f1_3) f1_7) f1_15) f1_19) f1_27))) (hh_29 : ((f 47 (f1_27 (fv 41 6) 0))) = (nxC f) ((f 47 (f1_19 (fv 41 6) 0)))) (hh_30 : ((f 47 (f1_19 (fv 41 6) 0))) < (nxC f) ((f 47 (f1_19 (fv 41 6) 0)))) => ?_))
              have hu1 := hh_28
              have hu2 := hh_29
              have hu3 := hh_30
              have hub : f 47 (f1_27 (fv 41 6) 0) ≤ f (fv 39 1) 0 := (rdC_b hh_28).2.1
              have huk : f1_27 (fv 41 7) 0 = kdC f (f 47 (f1_27 (fv 41 6) 0)) := rdC_k hh_28
              refine ⟨show (1 : Int) = 0 ∨ 1 = 1 from by decide, ?_⟩
              have hw : wlI ((mx [fv 41 6, fv 41 7] (wv (wv (mx [43, fv 42 3, fv 42 5, fv 41 6, fv 41 7] (mx [fv 41 6, fv 41 7] (wv (mx [43, fv 42 3, fv 42 5, fv 41 6, fv 41 7] (mx [fv 41 6, fv 41 7] f f1_3) f1_7) 45 (f (fv 42 4) 0) (f1_7 (fv 42 3) 0)) f1_15) f1_19) (fv 42 4) 0 ((f (fv 42 4) 0) + 1)) 44 ((f (fv 42 4) 0) + 1) (f1_19 (fv 42 3) 0)) f1_27) 45) ((mx [fv 41 6, fv 41 7] (wv (wv (mx [43, fv 42 3, fv 42 5, fv 41 6, fv 41 7] (mx [fv 41 6, fv 41 7] (wv (mx [43, fv 42 3, fv 42 5, fv 41 6, fv 41 7] (mx [fv 41 6, fv 41 7] f f1_3) f1_7) 45 (f (fv 42 4) 0) (f1_7 (fv 42 3) 0)) f1_15) f1_19) (fv 42 4) 0 ((f (fv 42 4) 0) + 1)) 44 ((f (fv 42 4) 0) + 1) (f1_19 (fv 42 3) 0)) f1_27) 44) ((mx [fv 41 6, fv 41 7] (wv (wv (mx [43, fv 42 3, fv 42 5, fv 41 6, fv 41 7] (mx [fv 41 6, fv 41 7] (wv (mx [43, fv 42 3, fv 42 5, fv 41 6, fv 41 7] (mx [fv 41 6, fv 41 7] f f1_3) f1_7) 45 (f (fv 42 4) 0) (f1_7 (fv 42 3) 0)) f1_15) f1_19) (fv 42 4) 0 ((f (fv 42 4) 0) + 1)) 44 ((f (fv 42 4) 0) + 1) (f1_19 (fv 42 3) 0)) f1_27) (fv 42 4) 0) = wlI (f 45) (f 44) (f (fv 42 4) 0) ++ [((sl (f1_7 43) 0 (f1_7 (fv 42 3) 0)).length : Int)] ++ [((sl (f1_19 43) 0 (f1_19 (fv 42 3) 0)).length : Int)] := by
                show wlI (wv f 45 (f (fv 42 4) 0) (f1_7 (fv 42 3) 0) 45) (wv f 44 (f (fv 42 4) 0 + 1) (f1_19 (fv 42 3) 0) 44) (f (fv 42 4) 0 + 1) = _
                rw [wv_up, wv_up, wlI_s hli.1, sl_len hc0]
                try rw [sl_len hl0]
              have hk := k0 ((mx [fv 41 6, fv 41 7] (wv (wv (mx [43, fv 42 3, fv 42 5, fv 41 6, fv 41 7] (mx [fv 41 6, fv 41 7] (wv (mx [43, fv 42 3, fv 42 5, fv 41 6, fv 41 7] (mx [fv 41 6, fv 41 7] f f1_3) f1_7) 45 (f (fv 42 4) 0) (f1_7 (fv 42 3) 0)) f1_15) f1_19) (fv 42 4) 0 ((f (fv 42 4) 0) + 1)) 44 ((f (fv 42 4) 0) + 1) (f1_19 (fv 42 3) 0)) f1_27)) hu1 (by rw [hw, show f 47 ((mx [fv 41 6, fv 41 7] (wv (wv (mx [43, fv 42 3, fv 42 5, fv 41 6, fv 41 7] (mx [fv 41 6, fv 41 7] (wv (mx [43, fv 42 3, fv 42 5, fv 41 6, fv 41 7] (mx [fv 41 6, fv 41 7] f f1_3) f1_7) 45 (f (fv 42 4) 0) (f1_7 (fv 42 3) 0)) f1_15) f1_19) (fv 42 4) 0 ((f (fv 42 4) 0) + 1)) 44 ((f (fv 42 4) 0) + 1) (f1_19 (fv 42 3) 0)) f1_27) (fv 41 6) 0) = _ from hu2]; first | exact r_t (r_t (r_t (r_t (r_t (q_0p (by omega) (by have := wlI_len (cn := f 45) (st := f 44) hli.1; omega)) (by rw [← hs2]; exact r_0)) (r_t (hc2 20 [] (wlI (f 45) (f 44) (f (fv 42 4) 0)) (Or.inl (by decide))) q_6p)) (r_t (q_7w (by omega)) (by rw [← ht2]; exact r_0))) (r_t (hd2 22 [] _ (Or.inl rfl) rfl) q_14b)) (q_16e (by omega)) | exact r_t (r_t (r_t (r_t (q_0p (by omega) (by have := wlI_len (cn := f 45) (st := f 44) hli.1; omega)) (by rw [← hs2]; exact r_0)) (r_t (hc2 20 [] (wlI (f 45) (f 44) (f (fv 42 4) 0)) (Or.inl (by decide))) q_6p)) (q_7e (by omega))) (q_16e (by omega))) (by have q2 : f 47 ((mx [fv 41 6, fv 41 7] (wv (wv (mx [43, fv 42 3, fv 42 5, fv 41 6, fv 41 7] (mx [fv 41 6, fv 41 7] (wv (mx [43, fv 42 3, fv 42 5, fv 41 6, fv 41 7] (mx [fv 41 6, fv 41 7] f f1_3) f1_7) 45 (f (fv 42 4) 0) (f1_7 (fv 42 3) 0)) f1_15) f1_19) (fv 42 4) 0 ((f (fv 42 4) 0) + 1)) 44 ((f (fv 42 4) 0) + 1) (f1_19 (fv 42 3) 0)) f1_27) (fv 41 6) 0) = _ := hu2; have q : (mx [fv 41 6, fv 41 7] (wv (wv (mx [43, fv 42 3, fv 42 5, fv 41 6, fv 41 7] (mx [fv 41 6, fv 41 7] (wv (mx [43, fv 42 3, fv 42 5, fv 41 6, fv 41 7] (mx [fv 41 6, fv 41 7] f f1_3) f1_7) 45 (f (fv 42 4) 0) (f1_7 (fv 42 3) 0)) f1_15) f1_19) (fv 42 4) 0 ((f (fv 42 4) 0) + 1)) 44 ((f (fv 42 4) 0) + 1) (f1_19 (fv 42 3) 0)) f1_27) (fv 42 3) 0 = f1_19 (fv 42 3) 0 := rfl; omega) (by have q2 : f 47 ((mx [fv 41 6, fv 41 7] (wv (wv (mx [43, fv 42 3, fv 42 5, fv 41 6, fv 41 7] (mx [fv 41 6, fv 41 7] (wv (mx [43, fv 42 3, fv 42 5, fv 41 6, fv 41 7] (mx [fv 41 6, fv 41 7] f f1_3) f1_7) 45 (f (fv 42 4) 0) (f1_7 (fv 42 3) 0)) f1_15) f1_19) (fv 42 4) 0 ((f (fv 42 4) 0) + 1)) 44 ((f (fv 42 4) 0) + 1) (f1_19 (fv 42 3) 0)) f1_27) (fv 41 6) 0) = _ := hu2; omega) ⟨rfl, by omega⟩ (wv_k (by omega))
              rw [show mx [43, fv 42 3, fv 42 5, fv 41 6, fv 41 7, fv 42 4, 44, 45] f (mx [fv 41 6, fv 41 7] (wv (wv (mx [43, fv 42 3, fv 42 5, fv 41 6, fv 41 7] (mx [fv 41 6, fv 41 7] (wv (mx [43, fv 42 3, fv 42 5, fv 41 6, fv 41 7] (mx [fv 41 6, fv 41 7] f f1_3) f1_7) 45 (f (fv 42 4) 0) (f1_7 (fv 42 3) 0)) f1_15) f1_19) (fv 42 4) 0 ((f (fv 42 4) 0) + 1)) 44 ((f (fv 42 4) 0) + 1) (f1_19 (fv 42 3) 0)) f1_27) = (mx [fv 41 6, fv 41 7] (wv (wv (mx [43, fv 42 3, fv 42 5, fv 41 6, fv 41 7] (mx [fv 41 6, fv 41 7] (wv (mx [43, fv 42 3, fv 42 5, fv 41 6, fv 41 7] (mx [fv 41 6, fv 41 7] f f1_3) f1_7) 45 (f (fv 42 4) 0) (f1_7 (fv 42 3) 0)) f1_15) f1_19) (fv 42 4) 0 ((f (fv 42 4) 0) + 1)) 44 ((f (fv 42 4) 0) + 1) (f1_19 (fv 42 3) 0)) f1_27) from ((mx_mx rfl (mx_wv rfl (mx_wv rfl (mx_mx rfl (mx_mx rfl (mx_wv rfl (mx_mx rfl (mx_mx rfl mx_rf))))))))).symm] at hk
              exact hk
            · refine hO (k_fail (by omega) (show (rdC (mx [43, fv 42 3, fv 42 5, fv 41 6, fv 41 7] (mx [fv 41 6, fv 41 7] (mx [43, fv 42 3, fv 42 5, fv 41 6, fv 41 7] (mx [fv 41 6, fv 41 7] f f1_3) f1_7) f1_15) f1_19)) from by first | exact hd1 | exact hc1) ?_)
              refine ⟨show (0 : Int) = 0 ∨ 0 = 1 from by decide, ?_⟩
              have hk := k1 ((wv (wv (mx [43, fv 42 3, fv 42 5, fv 41 6, fv 41 7] (mx [fv 41 6, fv 41 7] (wv (mx [43, fv 42 3, fv 42 5, fv 41 6, fv 41 7] (mx [fv 41 6, fv 41 7] f f1_3) f1_7) 45 (f (fv 42 4) 0) (f1_7 (fv 42 3) 0)) f1_15) f1_19) (fv 41 1) 0 1) (fv 41 2) 0 ((f 47 (f1_19 (fv 41 6) 0))))) (by first | exact flt_r (r_t (r_t (r_t (r_t (q_0p (by omega) (by have := wlI_len (cn := f 45) (st := f 44) hli.1; omega)) (by rw [← hs2]; exact r_0)) (r_t (hc2 20 [] (wlI (f 45) (f 44) (f (fv 42 4) 0)) (Or.inl (by decide))) q_6p)) (r_t (q_7w (by omega)) (by rw [← ht2]; exact r_0))) (r_t (hd2 22 [] _ (Or.inl rfl) rfl) q_14b)) (flt_0 (q_16f (by omega))) | exact flt_r (r_t (r_t (r_t (q_0p (by omega) (by have := wlI_len (cn := f 45) (st := f 44) hli.1; omega)) (by rw [← hs2]; exact r_0)) (r_t (hc2 20 [] (wlI (f 45) (f 44) (f (fv 42 4) 0)) (Or.inl (by decide))) q_6p)) (q_7e (by omega))) (flt_0 (q_16f (by omega)))) rfl
              rw [show mx [43, fv 42 3, fv 42 5, fv 41 1, fv 41 2, fv 41 6, fv 41 7, fv 42 4, 44, 45] f (wv (wv (mx [43, fv 42 3, fv 42 5, fv 41 6, fv 41 7] (mx [fv 41 6, fv 41 7] (wv (mx [43, fv 42 3, fv 42 5, fv 41 6, fv 41 7] (mx [fv 41 6, fv 41 7] f f1_3) f1_7) 45 (f (fv 42 4) 0) (f1_7 (fv 42 3) 0)) f1_15) f1_19) (fv 41 1) 0 1) (fv 41 2) 0 ((f 47 (f1_19 (fv 41 6) 0)))) = (wv (wv (mx [43, fv 42 3, fv 42 5, fv 41 6, fv 41 7] (mx [fv 41 6, fv 41 7] (wv (mx [43, fv 42 3, fv 42 5, fv 41 6, fv 41 7] (mx [fv 41 6, fv 41 7] f f1_3) f1_7) 45 (f (fv 42 4) 0) (f1_7 (fv 42 3) 0)) f1_15) f1_19) (fv 41 1) 0 1) (fv 41 2) 0 ((f 47 (f1_19 (fv 41 6) 0)))) from ((mx_wv rfl (mx_wv rfl (mx_mx rfl (mx_mx rfl (mx_wv rfl (mx_mx rfl (mx_mx rfl mx_rf)))))))).symm] at hk
              exact hk
          · have hg1 := hh_25
            refine ⟨fun _ => ?_, fun h => absurd (show (0 : Int) = 0 from by decide) h⟩
            refine ⟨show (0 : Int) = 0 ∨ 0 = 1 from by decide, ?_⟩
            have hk := k1 ((mx [43, fv 42 3, fv 42 5, fv 41 1, fv 41 2, fv 41 6, fv 41 7] (mx [fv 41 6, fv 41 7] (wv (mx [43, fv 42 3, fv 42 5, fv 41 6, fv 41 7] (mx [fv 41 6, fv 41 7] f f1_3) f1_7) 45 (f (fv 42 4) 0) (f1_7 (fv 42 3) 0)) f1_15) f1_24)) (flt_r (r_t (r_t (r_t (q_0p (by omega) (by have := wlI_len (cn := f 45) (st := f 44) hli.1; omega)) (by rw [← hs2]; exact r_0)) (r_t (hc2 20 [] (wlI (f 45) (f 44) (f (fv 42 4) 0)) (Or.inl (by decide))) q_6p)) (r_t (q_7w (by omega)) (by rw [← ht2]; exact r_0))) (hg1 22 [] _ (Or.inl rfl) rfl)) rfl
            rw [show mx [43, fv 42 3, fv 42 5, fv 41 1, fv 41 2, fv 41 6, fv 41 7, fv 42 4, 44, 45] f (mx [43, fv 42 3, fv 42 5, fv 41 1, fv 41 2, fv 41 6, fv 41 7] (mx [fv 41 6, fv 41 7] (wv (mx [43, fv 42 3, fv 42 5, fv 41 6, fv 41 7] (mx [fv 41 6, fv 41 7] f f1_3) f1_7) 45 (f (fv 42 4) 0) (f1_7 (fv 42 3) 0)) f1_15) f1_24) = (mx [43, fv 42 3, fv 42 5, fv 41 1, fv 41 2, fv 41 6, fv 41 7] (mx [fv 41 6, fv 41 7] (wv (mx [43, fv 42 3, fv 42 5, fv 41 6, fv 41 7] (mx [fv 41 6, fv 41 7] f f1_3) f1_7) 45 (f (fv 42 4) 0) (f1_7 (fv 42 3) 0)) f1_15) f1_24) from ((mx_mx rfl (mx_mx rfl (mx_wv rfl (mx_mx rfl (mx_mx rfl mx_rf)))))).symm] at hk
            exact hk
        · have hl0 := hc0
          refine ⟨fun (hh_31 : f1_7 (fv 41 7) 0 = 59) => ?_, fun (hh_31 : ¬ f1_7 (fv 41 7) 0 = 59) => ?_⟩
          · refine hO (k_endLine (by omega) (show 0 ≤ (f (fv 42 4) 0) ∧ (f (fv 42 4) 0) < 16 from by omega) ?_)
            refine hO (k_step (by omega) (show (rdC (mx [43, fv 42 3, fv 42 5, fv 41 6, fv 41 7] (mx [fv 41 6, fv 41 7] f f1_3) f1_7)) from by first | exact hd1 | exact hc1) (show ¬ (f1_7 (fv 41 7) 0) = 0 from by omega) (fun f1_32 (hh_33 :  (rdC (mx [fv 41 6, fv 41 7] (mx [43, fv 42 3, fv 42 5, fv 41 6, fv 41 7] (mx [fv 41 6, fv 41 7] f f1_3) f1_7) f1_32))) (hh_34 : ((f 47 (f1_32 (fv 41 6) 0))) = (nxC f) ((f 47 (f1_7 (fv 41 6) 0)))) (hh_35 : ((f 47 (f1_7 (fv 41 6) 0))) < (nxC f) ((f 47 (f1_7 (fv 41 6) 0)))) => ?_))
            have hu1 := hh_33
            have hu2 := hh_34
            have hu3 := hh_35
            have hub : f 47 (f1_32 (fv 41 6) 0) ≤ f (fv 39 1) 0 := (rdC_b hh_33).2.1
            have huk : f1_32 (fv 41 7) 0 = kdC f (f 47 (f1_32 (fv 41 6) 0)) := rdC_k hh_33
            refine ⟨show (1 : Int) = 0 ∨ 1 = 1 from by decide, ?_⟩
            have hw : wlI ((mx [fv 41 6, fv 41 7] (wv (wv (wv (mx [43, fv 42 3, fv 42 5, fv 41 6, fv 41 7] (mx [fv 41 6, fv 41 7] f f1_3) f1_7) 45 (f (fv 42 4) 0) (f1_7 (fv 42 3) 0)) (fv 42 4) 0 ((f (fv 42 4) 0) + 1)) 44 ((f (fv 42 4) 0) + 1) (f1_7 (fv 42 3) 0)) f1_32) 45) ((mx [fv 41 6, fv 41 7] (wv (wv (wv (mx [43, fv 42 3, fv 42 5, fv 41 6, fv 41 7] (mx [fv 41 6, fv 41 7] f f1_3) f1_7) 45 (f (fv 42 4) 0) (f1_7 (fv 42 3) 0)) (fv 42 4) 0 ((f (fv 42 4) 0) + 1)) 44 ((f (fv 42 4) 0) + 1) (f1_7 (fv 42 3) 0)) f1_32) 44) ((mx [fv 41 6, fv 41 7] (wv (wv (wv (mx [43, fv 42 3, fv 42 5, fv 41 6, fv 41 7] (mx [fv 41 6, fv 41 7] f f1_3) f1_7) 45 (f (fv 42 4) 0) (f1_7 (fv 42 3) 0)) (fv 42 4) 0 ((f (fv 42 4) 0) + 1)) 44 ((f (fv 42 4) 0) + 1) (f1_7 (fv 42 3) 0)) f1_32) (fv 42 4) 0) = wlI (f 45) (f 44) (f (fv 42 4) 0) ++ [((sl (f1_7 43) 0 (f1_7 (fv 42 3) 0)).length : Int)] ++ [((sl (f1_7 43) 0 (f1_7 (fv 42 3) 0)).length : Int)] := by
              show wlI (wv f 45 (f (fv 42 4) 0) (f1_7 (fv 42 3) 0) 45) (wv f 44 (f (fv 42 4) 0 + 1) (f1_7 (fv 42 3) 0) 44) (f (fv 42 4) 0 + 1) = _
              rw [wv_up, wv_up, wlI_s hli.1, sl_len hc0]
              try rw [sl_len hl0]
            have hk := k0 ((mx [fv 41 6, fv 41 7] (wv (wv (wv (mx [43, fv 42 3, fv 42 5, fv 41 6, fv 41 7] (mx [fv 41 6, fv 41 7] f f1_3) f1_7) 45 (f (fv 42 4) 0) (f1_7 (fv 42 3) 0)) (fv 42 4) 0 ((f (fv 42 4) 0) + 1)) 44 ((f (fv 42 4) 0) + 1) (f1_7 (fv 42 3) 0)) f1_32)) hu1 (by rw [hw, show f 47 ((mx [fv 41 6, fv 41 7] (wv (wv (wv (mx [43, fv 42 3, fv 42 5, fv 41 6, fv 41 7] (mx [fv 41 6, fv 41 7] f f1_3) f1_7) 45 (f (fv 42 4) 0) (f1_7 (fv 42 3) 0)) (fv 42 4) 0 ((f (fv 42 4) 0) + 1)) 44 ((f (fv 42 4) 0) + 1) (f1_7 (fv 42 3) 0)) f1_32) (fv 41 6) 0) = _ from hu2]; first | exact r_t (r_t (r_t (r_t (r_t (q_0p (by omega) (by have := wlI_len (cn := f 45) (st := f 44) hli.1; omega)) (by rw [← hs2]; exact r_0)) (r_t (hc2 20 [] (wlI (f 45) (f 44) (f (fv 42 4) 0)) (Or.inl (by decide))) q_6p)) (r_t (q_7w (by omega)) (by rw [← ht2]; exact r_0))) (r_t (hd2 22 [] _ (Or.inl rfl) rfl) q_14b)) (q_16e (by omega)) | exact r_t (r_t (r_t (r_t (q_0p (by omega) (by have := wlI_len (cn := f 45) (st := f 44) hli.1; omega)) (by rw [← hs2]; exact r_0)) (r_t (hc2 20 [] (wlI (f 45) (f 44) (f (fv 42 4) 0)) (Or.inl (by decide))) q_6p)) (q_7e (by omega))) (q_16e (by omega))) (by have q2 : f 47 ((mx [fv 41 6, fv 41 7] (wv (wv (wv (mx [43, fv 42 3, fv 42 5, fv 41 6, fv 41 7] (mx [fv 41 6, fv 41 7] f f1_3) f1_7) 45 (f (fv 42 4) 0) (f1_7 (fv 42 3) 0)) (fv 42 4) 0 ((f (fv 42 4) 0) + 1)) 44 ((f (fv 42 4) 0) + 1) (f1_7 (fv 42 3) 0)) f1_32) (fv 41 6) 0) = _ := hu2; have q : (mx [fv 41 6, fv 41 7] (wv (wv (wv (mx [43, fv 42 3, fv 42 5, fv 41 6, fv 41 7] (mx [fv 41 6, fv 41 7] f f1_3) f1_7) 45 (f (fv 42 4) 0) (f1_7 (fv 42 3) 0)) (fv 42 4) 0 ((f (fv 42 4) 0) + 1)) 44 ((f (fv 42 4) 0) + 1) (f1_7 (fv 42 3) 0)) f1_32) (fv 42 3) 0 = f1_7 (fv 42 3) 0 := rfl; omega) (by have q2 : f 47 ((mx [fv 41 6, fv 41 7] (wv (wv (wv (mx [43, fv 42 3, fv 42 5, fv 41 6, fv 41 7] (mx [fv 41 6, fv 41 7] f f1_3) f1_7) 45 (f (fv 42 4) 0) (f1_7 (fv 42 3) 0)) (fv 42 4) 0 ((f (fv 42 4) 0) + 1)) 44 ((f (fv 42 4) 0) + 1) (f1_7 (fv 42 3) 0)) f1_32) (fv 41 6) 0) = _ := hu2; omega) ⟨rfl, by omega⟩ (wv_k (by omega))
            rw [show mx [43, fv 42 3, fv 42 5, fv 41 6, fv 41 7, fv 42 4, 44, 45] f (mx [fv 41 6, fv 41 7] (wv (wv (wv (mx [43, fv 42 3, fv 42 5, fv 41 6, fv 41 7] (mx [fv 41 6, fv 41 7] f f1_3) f1_7) 45 (f (fv 42 4) 0) (f1_7 (fv 42 3) 0)) (fv 42 4) 0 ((f (fv 42 4) 0) + 1)) 44 ((f (fv 42 4) 0) + 1) (f1_7 (fv 42 3) 0)) f1_32) = (mx [fv 41 6, fv 41 7] (wv (wv (wv (mx [43, fv 42 3, fv 42 5, fv 41 6, fv 41 7] (mx [fv 41 6, fv 41 7] f f1_3) f1_7) 45 (f (fv 42 4) 0) (f1_7 (fv 42 3) 0)) (fv 42 4) 0 ((f (fv 42 4) 0) + 1)) 44 ((f (fv 42 4) 0) + 1) (f1_7 (fv 42 3) 0)) f1_32) from ((mx_mx rfl (mx_wv rfl (mx_wv rfl (mx_wv rfl (mx_mx rfl (mx_mx rfl mx_rf))))))).symm] at hk
            exact hk
          · refine hO (k_fail (by omega) (show (rdC (mx [43, fv 42 3, fv 42 5, fv 41 6, fv 41 7] (mx [fv 41 6, fv 41 7] f f1_3) f1_7)) from by first | exact hd1 | exact hc1) ?_)
            refine ⟨show (0 : Int) = 0 ∨ 0 = 1 from by decide, ?_⟩
            have hk := k1 ((wv (wv (wv (mx [43, fv 42 3, fv 42 5, fv 41 6, fv 41 7] (mx [fv 41 6, fv 41 7] f f1_3) f1_7) 45 (f (fv 42 4) 0) (f1_7 (fv 42 3) 0)) (fv 41 1) 0 1) (fv 41 2) 0 ((f 47 (f1_7 (fv 41 6) 0))))) (by first | exact flt_r (r_t (r_t (r_t (r_t (q_0p (by omega) (by have := wlI_len (cn := f 45) (st := f 44) hli.1; omega)) (by rw [← hs2]; exact r_0)) (r_t (hc2 20 [] (wlI (f 45) (f 44) (f (fv 42 4) 0)) (Or.inl (by decide))) q_6p)) (r_t (q_7w (by omega)) (by rw [← ht2]; exact r_0))) (r_t (hd2 22 [] _ (Or.inl rfl) rfl) q_14b)) (flt_0 (q_16f (by omega))) | exact flt_r (r_t (r_t (r_t (q_0p (by omega) (by have := wlI_len (cn := f 45) (st := f 44) hli.1; omega)) (by rw [← hs2]; exact r_0)) (r_t (hc2 20 [] (wlI (f 45) (f 44) (f (fv 42 4) 0)) (Or.inl (by decide))) q_6p)) (q_7e (by omega))) (flt_0 (q_16f (by omega)))) rfl
            rw [show mx [43, fv 42 3, fv 42 5, fv 41 1, fv 41 2, fv 41 6, fv 41 7, fv 42 4, 44, 45] f (wv (wv (wv (mx [43, fv 42 3, fv 42 5, fv 41 6, fv 41 7] (mx [fv 41 6, fv 41 7] f f1_3) f1_7) 45 (f (fv 42 4) 0) (f1_7 (fv 42 3) 0)) (fv 41 1) 0 1) (fv 41 2) 0 ((f 47 (f1_7 (fv 41 6) 0)))) = (wv (wv (wv (mx [43, fv 42 3, fv 42 5, fv 41 6, fv 41 7] (mx [fv 41 6, fv 41 7] f f1_3) f1_7) 45 (f (fv 42 4) 0) (f1_7 (fv 42 3) 0)) (fv 41 1) 0 1) (fv 41 2) 0 ((f 47 (f1_7 (fv 41 6) 0)))) from ((mx_wv rfl (mx_wv rfl (mx_wv rfl (mx_mx rfl (mx_mx rfl mx_rf)))))).symm] at hk
            exact hk
      · have hf1 := hh_13
        refine ⟨fun _ => ?_, fun h => absurd (show (0 : Int) = 0 from by decide) h⟩
        refine ⟨show (0 : Int) = 0 ∨ 0 = 1 from by decide, ?_⟩
        have hk := k1 ((mx [43, fv 42 3, fv 42 5, fv 41 1, fv 41 2, fv 41 6, fv 41 7] (mx [fv 41 6, fv 41 7] f f1_3) f1_12)) (flt_r (r_t (q_0p (by omega) (by have := wlI_len (cn := f 45) (st := f 44) hli.1; omega)) (by rw [← hs2]; exact r_0)) (hf1 20 [] _ (Or.inl (by decide)))) rfl
        rw [show mx [43, fv 42 3, fv 42 5, fv 41 1, fv 41 2, fv 41 6, fv 41 7, fv 42 4, 44, 45] f (mx [43, fv 42 3, fv 42 5, fv 41 1, fv 41 2, fv 41 6, fv 41 7] (mx [fv 41 6, fv 41 7] f f1_3) f1_12) = (mx [43, fv 42 3, fv 42 5, fv 41 1, fv 41 2, fv 41 6, fv 41 7] (mx [fv 41 6, fv 41 7] f f1_3) f1_12) from ((mx_mx rfl (mx_mx rfl mx_rf))).symm] at hk
        exact hk
    · refine hO (k_fail (by omega) (show (rdC f) from hrd) ?_)
      refine ⟨show (0 : Int) = 0 ∨ 0 = 1 from by decide, ?_⟩
      have hk := k1 ((wv (wv f (fv 41 1) 0 3) (fv 41 2) 0 ((f 47 (f (fv 41 6) 0))))) (flt_0 (q_0m (by omega) (by have := wlI_len (cn := f 45) (st := f 44) hli.1; omega))) rfl
      rw [show mx [43, fv 42 3, fv 42 5, fv 41 1, fv 41 2, fv 41 6, fv 41 7, fv 42 4, 44, 45] f (wv (wv f (fv 41 1) 0 3) (fv 41 2) 0 ((f 47 (f (fv 41 6) 0)))) = (wv (wv f (fv 41 1) 0 3) (fv 41 2) 0 ((f 47 (f (fv 41 6) 0)))) from ((mx_wv rfl (mx_wv rfl mx_rf))).symm] at hk
      exact hk
  · refine hO (k_fail (by omega) (show (rdC f) from hrd) ?_)
    refine ⟨show (0 : Int) = 0 ∨ 0 = 1 from by decide, ?_⟩
    have hk := k1 ((wv (wv f (fv 41 1) 0 1) (fv 41 2) 0 ((f 47 (f (fv 41 6) 0))))) (flt_0 (q_0f (by omega) (by omega))) rfl
    rw [show mx [43, fv 42 3, fv 42 5, fv 41 1, fv 41 2, fv 41 6, fv 41 7, fv 42 4, 44, 45] f (wv (wv f (fv 41 1) 0 1) (fv 41 2) 0 ((f 47 (f (fv 41 6) 0)))) = (wv (wv f (fv 41 1) 0 1) (fv 41 2) 0 ((f 47 (f (fv 41 6) 0)))) from ((mx_wv rfl (mx_wv rfl mx_rf))).symm] at hk
    exact hk
set_option maxRecDepth 100000 in
set_option maxHeartbeats 4000000 in
theorem k_readLaw (hd : 31 ≤ d) (htp : tpB (f 40) (f (fv 39 1) 0)) (hs0 : (f 44 0) = 0) (k0 : ∀ f1 : iF, (∃ a, Rch (kdC f) (nxC f) (0, [], skp (f 40) (f (fv 39 1) 0) 0, [], []) (99, [], a, (sl (f1 43) 0 (f1 (fv 42 3) 0)), (wlI (f1 45) (f1 44) (f1 (fv 42 4) 0)))) → (askB (f1 43) (f1 (fv 42 3) 0) (f1 (fv 42 5) 0)) → (0 ≤ f1 (fv 42 3) 0 ∧ f1 (fv 42 3) 0 ≤ 400) → (0 ≤ f1 (fv 42 4) 0 ∧ f1 (fv 42 4) 0 ≤ 16) → (f1 44 0 = 0) → (f1 (fv 41 1) 0 = 0 ∧ f1 (fv 41 2) 0 = -1) → Q (some (iI 1)) (mx [43, fv 42 3, fv 42 5, fv 41 1, fv 41 2, fv 41 6, fv 41 7, fv 42 4, 44, 45, 46, 47] f f1) g) (k1 : ∀ f1 : iF, (flt (kdC f) (nxC f) (0, [], skp (f 40) (f (fv 39 1) 0) 0, [], []) (f1 (fv 41 1) 0) (f1 (fv 41 2) 0)) → (f1 44 0 = 0) → Q (some (iI 0)) (mx [43, fv 42 3, fv 42 5, fv 41 1, fv 41 2, fv 41 6, fv 41 7, fv 42 4, 44, 45, 46, 47] f f1) g) : wq d 123 [iR 41] f g Q := by
  obtain ⟨d, rfl⟩ : ∃ e, d = e + 1 := ⟨d - 1, by omega⟩
  refine i_meth [(22, 2)] (fun n j lv st f' g' => (j = 22 ∧ ∃ (ln9 : Int) (f1 : iF), lv = [some (iR 41), some (iI ln9)] ∧ st = [] ∧ f' = (mx [43, fv 42 3, fv 42 5, fv 41 1, fv 41 2, fv 41 6, fv 41 7, fv 42 4, 44, 45, 46, 47] f f1) ∧ g = g' ∧ (rdC (mx [43, fv 42 3, fv 42 5, fv 41 1, fv 41 2, fv 41 6, fv 41 7, fv 42 4, 44, 45, 46, 47] f f1)) ∧ (Rch (kdC f) (nxC f) (0, [], skp (f 40) (f (fv 39 1) 0) 0, [], []) (0, [], f1 47 (f1 (fv 41 6) 0), sl (f1 43) 0 (f1 (fv 42 3) 0), wlI (f1 45) (f1 44) (f1 (fv 42 4) 0))) ∧ (f1 (fv 42 3) 0 ≤ f1 47 (f1 (fv 41 6) 0)) ∧ (0 ≤ ln9 ∧ ln9 ≤ 16 ∧ f1 (fv 42 4) 0 = ln9) ∧ (f1 44 0 = 0) ∧ (f1 (fv 41 1) 0 = 0 ∧ f1 (fv 41 2) 0 = -1) ∧ (n : Int) = 17 - ln9)) 20 (by omega) rfl rfl (fun n j lv st f' g' hn hI O J hO hF hB => ?_) (fun hvs hin O J hO hF => ?_)
  · obtain ⟨rfl, ln9, f1, rfl, rfl, rfl, rfl, hrd1, hR, hz, hl, h440, hfa, hm⟩ := hI
    have hb1 : 0 ≤ f1 47 (f1 (fv 41 6) 0) ∧ f1 47 (f1 (fv 41 6) 0) ≤ f (fv 39 1) 0 ∧ f (fv 39 1) 0 ≤ 400 ∧ 0 ≤ f1 (fv 41 6) 0 ∧ f1 (fv 41 6) 0 ≤ 400 ∧ 0 ≤ f1 (fv 42 3) 0 := rdC_b hrd1
    have hkd : f1 (fv 41 7) 0 = kdC f (f1 47 (f1 (fv 41 6) 0)) := rdC_k hrd1
    refine ⟨fun (hh_1 : 16 < ln9) => ?_, fun (hh_1 : ¬ 16 < ln9) => ?_⟩
    · refine ⟨show (0 : Int) = 0 ∨ 0 = 1 from by decide, ?_⟩
      exfalso; omega
    · refine ⟨fun (hh_2 : f1 (fv 41 7) 0 = 0) => ?_, fun (hh_2 : ¬ f1 (fv 41 7) 0 = 0) => ?_⟩
      · refine ⟨show (1 : Int) = 0 ∨ 1 = 1 from by decide, ?_⟩
        have hk := k0 (f1) ⟨_, r_t hR (q_0e (by omega))⟩ hrd1.2.2.2.2 (by omega) (by omega) h440 hfa
        exact hk
      · refine hO (k_line (by omega) (show (rdC (mx [43, fv 42 3, fv 42 5, fv 41 1, fv 41 2, fv 41 6, fv 41 7, fv 42 4, 44, 45, 46, 47] f f1)) from hrd1) (show (f1 (fv 42 3) 0) ≤ ((f1 47 (f1 (fv 41 6) 0))) from hz) (show 0 ≤ (f1 (fv 42 4) 0) ∧ (f1 (fv 42 4) 0) ≤ 16 from by omega) (show ¬ (f1 (fv 41 7) 0) = 0 from by omega) (fun f1_3 (hh_4 :  (rdC (mx [43, fv 42 3, fv 42 5, fv 41 6, fv 41 7, fv 42 4, 44, 45] (mx [43, fv 42 3, fv 42 5, fv 41 1, fv 41 2, fv 41 6, fv 41 7, fv 42 4, 44, 45, 46, 47] f f1) f1_3))) (hh_5 : Rch (kdC f) (nxC f) (0, [], ((f1 47 (f1 (fv 41 6) 0))), (sl (f1 43) 0 (f1 (fv 42 3) 0)), (wlI (f1 45) (f1 44) (f1 (fv 42 4) 0))) (0, [], ((f1 47 (f1_3 (fv 41 6) 0))), (sl (f1_3 43) 0 (f1_3 (fv 42 3) 0)), (wlI (f1_3 45) (f1_3 44) (f1_3 (fv 42 4) 0)))) (hh_6 : f1_3 (fv 42 3) 0 - ((f1 47 (f1_3 (fv 41 6) 0))) ≤ (f1 (fv 42 3) 0) - ((f1 47 (f1 (fv 41 6) 0)))) (hh_7 : ((f1 47 (f1 (fv 41 6) 0))) < ((f1 47 (f1_3 (fv 41 6) 0)))) (hh_8 : f1_3 (fv 42 4) 0 = (f1 (fv 42 4) 0) + 1 ∧ (f1 (fv 42 4) 0) < 16) (hh_9 : f1_3 44 0 = (f1 44 0)) => ?_) (fun f1_10 (hh_11 : flt (kdC f) (nxC f) (0, [], ((f1 47 (f1 (fv 41 6) 0))), (sl (f1 43) 0 (f1 (fv 42 3) 0)), (wlI (f1 45) (f1 44) (f1 (fv 42 4) 0))) (f1_10 (fv 41 1) 0) (f1_10 (fv 41 2) 0)) (hh_12 : f1_10 44 0 = (f1 44 0)) => ?_))
        · have hc1 := hh_4
          have hc2 := hh_5
          have hc3 := hh_6
          have hc5 := hh_8
          have hc6 := hh_9
          refine ⟨fun h => absurd (show (1 : Int) = 0 from h) (by decide), fun _ => ?_⟩
          refine ⟨show inr (ln9 + 1) from by constructor <;> omega, ?_⟩
          refine hB (17 - (ln9 + 1) : Int).toNat ?_ ⟨rfl, (ln9 + 1), (mx [43, fv 42 3, fv 42 5, fv 41 6, fv 41 7, fv 42 4, 44, 45] f1 f1_3), rfl, rfl, (mx_mx rfl rfl), rfl, ?_, ?_, ?_, ?_, ?_, ?_, ?_⟩
          · omega
          · exact hc1
          · exact r_t hR hc2
          · have q1 := hc3; show (mx [43, fv 42 3, fv 42 5, fv 41 6, fv 41 7, fv 42 4, 44, 45] f1 f1_3) (fv 42 3) 0 ≤ f1 47 ((mx [43, fv 42 3, fv 42 5, fv 41 6, fv 41 7, fv 42 4, 44, 45] f1 f1_3) (fv 41 6) 0); have q2 : (mx [43, fv 42 3, fv 42 5, fv 41 6, fv 41 7, fv 42 4, 44, 45] f1 f1_3) (fv 42 3) 0 = f1_3 (fv 42 3) 0 := rfl; have q3 : f1 47 ((mx [43, fv 42 3, fv 42 5, fv 41 6, fv 41 7, fv 42 4, 44, 45] f1 f1_3) (fv 41 6) 0) = f1 47 (f1_3 (fv 41 6) 0) := rfl; omega
          · exact ⟨by omega, by omega, by show f1_3 (fv 42 4) 0 = ln9 + 1; omega⟩
          · exact hc6.trans h440
          · exact hfa
          · omega
        · have hf1 := hh_11
          have hf2 := hh_12
          refine ⟨fun _ => ?_, fun h => absurd (show (0 : Int) = 0 from by decide) h⟩
          refine ⟨show (0 : Int) = 0 ∨ 0 = 1 from by decide, ?_⟩
          have hk := k1 ((mx [43, fv 42 3, fv 42 5, fv 41 1, fv 41 2, fv 41 6, fv 41 7, fv 42 4, 44, 45] f1 f1_10)) (flt_r hR hf1) (hf2.trans h440)
          rw [show mx [43, fv 42 3, fv 42 5, fv 41 1, fv 41 2, fv 41 6, fv 41 7, fv 42 4, 44, 45, 46, 47] f (mx [43, fv 42 3, fv 42 5, fv 41 1, fv 41 2, fv 41 6, fv 41 7, fv 42 4, 44, 45] f1 f1_10) = (mx [43, fv 42 3, fv 42 5, fv 41 1, fv 41 2, fv 41 6, fv 41 7, fv 42 4, 44, 45] (mx [43, fv 42 3, fv 42 5, fv 41 1, fv 41 2, fv 41 6, fv 41 7, fv 42 4, 44, 45, 46, 47] f f1) f1_10) from ((mx_mx rfl rfl)).symm] at hk
          exact hk
  · have htp1 := htp.1
    refine hO (k_wipe (by omega) ?_)
    refine hO (k_split (by omega) (show tpB (f 40) (f (fv 39 1) 0) from htp) (fun N9_13 f1_14 (hh_15 : tkC (f1_14 46) (f1_14 47) (f 40) (f (fv 39 1) 0) N9_13) => ?_))
    have htk := hh_15
    refine ⟨show 0 ≤ (0 : Int) ∧ 0 < 401 from by decide, ?_⟩
    refine hF (17 - 0 : Int).toNat ?_ ⟨rfl, 0, (wv (wv (mx [46, 47] (wv (wv (wv (wv (wv f (fv 42 3) 0 0) (fv 42 4) 0 0) (fv 42 5) 0 0) (fv 41 1) 0 0) (fv 41 2) 0 (-1)) f1_14) (fv 41 6) 0 0) (fv 41 7) 0 (f1_14 46 0)), rfl, rfl, (mx_wv rfl (mx_wv rfl (mx_mx rfl (mx_wv rfl (mx_wv rfl (mx_wv rfl (mx_wv rfl (mx_wv rfl mx_rf)))))))), rfl, ?_, ?_, ?_, ?_, ?_, ?_, ?_⟩
    · omega
    · exact ⟨htp, ⟨_, htk, Int.le_refl _, htk.1⟩, rfl, Int.le_refl _, ⟨(show (0 : Int) ≤ 0 ∧ (0 : Int) < 512 from by decide), fun k h0 h1 => absurd h1 (by show ¬ k < 0; omega)⟩⟩
    · rw [← htk.2.2.1]; exact r_0
    · exact (htk.2.2.2.1 0 (Int.le_refl _) htk.1).2.1
    · exact ⟨by omega, by omega, rfl⟩
    · exact hs0
    · exact ⟨rfl, rfl⟩
    · omega
set_option maxRecDepth 100000 in
set_option maxHeartbeats 4000000 in
theorem k_text (hd : 32 ≤ d) (htp : tpB (f 40) (f (fv 39 1) 0)) (hs0 : (f 44 0) = 0) (k0 : ∀ f1 : iF, ∀ g1 : iG, (∃ a, Rch (kdC f) (nxC f) (0, [], skp (f 40) (f (fv 39 1) 0) 0, [], []) (99, [], a, sl (f1 16) 0 (f1 (fv 15 3) 0), wlI (f1 18) (f1 17) (f1 (fv 15 4) 0))) → (askB (f1 16) (f1 (fv 15 3) 0) (f1 (fv 15 5) 0)) → (0 ≤ f1 (fv 15 3) 0 ∧ f1 (fv 15 3) 0 ≤ 400) → (0 ≤ f1 (fv 15 4) 0 ∧ f1 (fv 15 4) 0 ≤ 16) → (f1 17 0 = 0 ∧ f1 44 0 = 0) → (f1 (fv 41 1) 0 = 0 ∧ f1 (fv 41 2) 0 = -1) → (f1 (fv 39 1) 0 = 0 ∧ f1 (fv 62 0) 0 = 0 ∧ f1 (fv 72 0) 0 = -1 ∧ f1 (fv 76 0) 0 = 0) → (∀ w, mOK w g1) → Q (some (iI (f1 (fv 15 4) 0))) (mx [43, fv 42 3, fv 42 5, fv 41 1, fv 41 2, fv 41 6, fv 41 7, fv 42 4, 44, 45, 46, 47, fv 39 1, 16, 17, 18, fv 15 3, fv 15 4, fv 15 5, fv 62 0, fv 72 0, fv 76 0] f f1) g1) (k1 : ∀ f1 : iF, (flt (kdC f) (nxC f) (0, [], skp (f 40) (f (fv 39 1) 0) 0, [], []) (f1 (fv 41 1) 0) (f1 (fv 41 2) 0)) → (f1 44 0 = 0) → (f1 (fv 39 1) 0 = 0) → Q (some (iI (-1))) (mx [43, fv 42 3, fv 42 5, fv 41 1, fv 41 2, fv 41 6, fv 41 7, fv 42 4, 44, 45, 46, 47, fv 39 1] f f1) g) : wq d 192 [iR 0] f g Q := by
  obtain ⟨d, rfl⟩ : ∃ e, d = e + 1 := ⟨d - 1, by omega⟩
  refine i_meth0 rfl rfl (fun O J hO => ?_)
  refine hO (k_readLaw (by omega) (show tpB (f 40) (f (fv 39 1) 0) from htp) (show (f 44 0) = 0 from hs0) (fun f1_1 (hh_2 : ∃ a, Rch (kdC f) (nxC f) (0, [], skp (f 40) (f (fv 39 1) 0) 0, [], []) (99, [], a, (sl (f1_1 43) 0 (f1_1 (fv 42 3) 0)), (wlI (f1_1 45) (f1_1 44) (f1_1 (fv 42 4) 0)))) (hh_3 : askB (f1_1 43) (f1_1 (fv 42 3) 0) (f1_1 (fv 42 5) 0)) (hh_4 : 0 ≤ f1_1 (fv 42 3) 0 ∧ f1_1 (fv 42 3) 0 ≤ 400) (hh_5 : 0 ≤ f1_1 (fv 42 4) 0 ∧ f1_1 (fv 42 4) 0 ≤ 16) (hh_6 : f1_1 44 0 = 0) (hh_7 : f1_1 (fv 41 1) 0 = 0 ∧ f1_1 (fv 41 2) 0 = -1) => ?_) (fun f1_8 (hh_9 : flt (kdC f) (nxC f) (0, [], skp (f 40) (f (fv 39 1) 0) 0, [], []) (f1_8 (fv 41 1) 0) (f1_8 (fv 41 2) 0)) (hh_10 : f1_8 44 0 = 0) => ?_))
  · have hr1 := hh_2
    have hr2 := hh_3
    have hr3 := hh_4
    have hr4 := hh_5
    have hr5 := hh_6
    have hr6 := hh_7
    refine ⟨fun h => absurd (show (1 : Int) = 0 from h) (by decide), fun _ => ?_⟩
    refine hO (k_ltake_dr (by omega) (fun f1_11 (hh_12 : ∀ q, 0 ≤ q → q < 400 → f1_11 16 q = (f1_1 43 q)) (hh_13 : ∀ q, 0 ≤ q → q < 17 → f1_11 17 q = (f1_1 44 q)) (hh_14 : ∀ q, 0 ≤ q → q < 16 → f1_11 18 q = (f1_1 45 q)) (hh_15 : f1_11 (fv 15 3) 0 = (f1_1 (fv 42 3) 0) ∧ f1_11 (fv 15 4) 0 = (f1_1 (fv 42 4) 0) ∧ f1_11 (fv 15 5) 0 = (f1_1 (fv 42 5) 0)) => ?_))
    have ha1 := hh_12
    have ha2 := hh_13
    have ha3 := hh_14
    have ha4 := hh_15
    refine hO (k_lawChanged (by omega) (fun g1_16 (hh_17 : ∀ w, mOK w g1_16) => ?_))
    have hg1 := hh_17
    have hk := k0 ((wv (wv (wv (mx [16, 17, 18, fv 15 3, fv 15 4, fv 15 5] (wv (mx [43, fv 42 3, fv 42 5, fv 41 1, fv 41 2, fv 41 6, fv 41 7, fv 42 4, 44, 45, 46, 47] f f1_1) (fv 39 1) 0 0) f1_11) (fv 62 0) 0 0) (fv 72 0) 0 (-1)) (fv 76 0) 0 0)) g1_16 (by obtain ⟨a, q⟩ := hr1; exact ⟨a, by rw [show sl ((wv (wv (wv (mx [16, 17, 18, fv 15 3, fv 15 4, fv 15 5] (wv (mx [43, fv 42 3, fv 42 5, fv 41 1, fv 41 2, fv 41 6, fv 41 7, fv 42 4, 44, 45, 46, 47] f f1_1) (fv 39 1) 0 0) f1_11) (fv 62 0) 0 0) (fv 72 0) 0 (-1)) (fv 76 0) 0 0) 16) 0 ((wv (wv (wv (mx [16, 17, 18, fv 15 3, fv 15 4, fv 15 5] (wv (mx [43, fv 42 3, fv 42 5, fv 41 1, fv 41 2, fv 41 6, fv 41 7, fv 42 4, 44, 45, 46, 47] f f1_1) (fv 39 1) 0 0) f1_11) (fv 62 0) 0 0) (fv 72 0) 0 (-1)) (fv 76 0) 0 0) (fv 15 3) 0) = sl (f1_1 43) 0 (f1_1 (fv 42 3) 0) from by show sl (f1_11 16) 0 (f1_11 (fv 15 3) 0) = _; rw [ha4.1]; exact sl_congr (fun k k0 k1 => ha1 k k0 (by omega)), show wlI ((wv (wv (wv (mx [16, 17, 18, fv 15 3, fv 15 4, fv 15 5] (wv (mx [43, fv 42 3, fv 42 5, fv 41 1, fv 41 2, fv 41 6, fv 41 7, fv 42 4, 44, 45, 46, 47] f f1_1) (fv 39 1) 0 0) f1_11) (fv 62 0) 0 0) (fv 72 0) 0 (-1)) (fv 76 0) 0 0) 18) ((wv (wv (wv (mx [16, 17, 18, fv 15 3, fv 15 4, fv 15 5] (wv (mx [43, fv 42 3, fv 42 5, fv 41 1, fv 41 2, fv 41 6, fv 41 7, fv 42 4, 44, 45, 46, 47] f f1_1) (fv 39 1) 0 0) f1_11) (fv 62 0) 0 0) (fv 72 0) 0 (-1)) (fv 76 0) 0 0) 17) ((wv (wv (wv (mx [16, 17, 18, fv 15 3, fv 15 4, fv 15 5] (wv (mx [43, fv 42 3, fv 42 5, fv 41 1, fv 41 2, fv 41 6, fv 41 7, fv 42 4, 44, 45, 46, 47] f f1_1) (fv 39 1) 0 0) f1_11) (fv 62 0) 0 0) (fv 72 0) 0 (-1)) (fv 76 0) 0 0) (fv 15 4) 0) = wlI (f1_1 45) (f1_1 44) (f1_1 (fv 42 4) 0) from by show wlI (f1_11 18) (f1_11 17) (f1_11 (fv 15 4) 0) = _; rw [ha4.2.1]; exact wlN_cg _ (fun k k0 k1 => ⟨ha3 k (by omega) (by omega), ha2 (k + 1) (by omega) (by omega)⟩)]; exact q⟩) (by show askB (f1_11 16) (f1_11 (fv 15 3) 0) (f1_11 (fv 15 5) 0); rw [ha4.1, ha4.2.2]; exact ⟨hr2.1, fun k k0 k1 => by rw [ha1 k k0 (by omega)]; exact hr2.2 k k0 k1⟩) (by show 0 ≤ f1_11 (fv 15 3) 0 ∧ f1_11 (fv 15 3) 0 ≤ 400; rw [ha4.1]; exact hr3) (by show 0 ≤ f1_11 (fv 15 4) 0 ∧ f1_11 (fv 15 4) 0 ≤ 16; rw [ha4.2.1]; exact hr4) ⟨(ha2 0 (by decide) (by decide)).trans hr5, hr5⟩ hr6 ⟨rfl, rfl, rfl, rfl⟩ hg1
    rw [show mx [43, fv 42 3, fv 42 5, fv 41 1, fv 41 2, fv 41 6, fv 41 7, fv 42 4, 44, 45, 46, 47, fv 39 1, 16, 17, 18, fv 15 3, fv 15 4, fv 15 5, fv 62 0, fv 72 0, fv 76 0] f (wv (wv (wv (mx [16, 17, 18, fv 15 3, fv 15 4, fv 15 5] (wv (mx [43, fv 42 3, fv 42 5, fv 41 1, fv 41 2, fv 41 6, fv 41 7, fv 42 4, 44, 45, 46, 47] f f1_1) (fv 39 1) 0 0) f1_11) (fv 62 0) 0 0) (fv 72 0) 0 (-1)) (fv 76 0) 0 0) = (wv (wv (wv (mx [16, 17, 18, fv 15 3, fv 15 4, fv 15 5] (wv (mx [43, fv 42 3, fv 42 5, fv 41 1, fv 41 2, fv 41 6, fv 41 7, fv 42 4, 44, 45, 46, 47] f f1_1) (fv 39 1) 0 0) f1_11) (fv 62 0) 0 0) (fv 72 0) 0 (-1)) (fv 76 0) 0 0) from ((mx_wv rfl (mx_wv rfl (mx_wv rfl (mx_mx rfl (mx_wv rfl (mx_mx rfl mx_rf))))))).symm] at hk
    exact hk
  · have hf1 := hh_9
    have hf2 := hh_10
    refine ⟨fun _ => ?_, fun h => absurd (show (0 : Int) = 0 from by decide) h⟩
    have hk := k1 ((wv (mx [43, fv 42 3, fv 42 5, fv 41 1, fv 41 2, fv 41 6, fv 41 7, fv 42 4, 44, 45, 46, 47] f f1_8) (fv 39 1) 0 0)) hf1 hf2 rfl
    rw [show mx [43, fv 42 3, fv 42 5, fv 41 1, fv 41 2, fv 41 6, fv 41 7, fv 42 4, 44, 45, 46, 47, fv 39 1] f (wv (mx [43, fv 42 3, fv 42 5, fv 41 1, fv 41 2, fv 41 6, fv 41 7, fv 42 4, 44, 45, 46, 47] f f1_8) (fv 39 1) 0 0) = (wv (mx [43, fv 42 3, fv 42 5, fv 41 1, fv 41 2, fv 41 6, fv 41 7, fv 42 4, 44, 45, 46, 47] f f1_8) (fv 39 1) 0 0) from ((mx_wv rfl (mx_mx rfl mx_rf))).symm] at hk
    exact hk
end C41
