section C40
variable {d : Nat} {f : iF} {g : iG} {Q : Option iv → iF → iG → Prop}
/-! ===== the class: claims of a text ===== -/
def jo (j : Int) (K : List Int) : List Int := if j = 0 then K else 11 :: K
theorem jo_h {j x : Int} {K : List Int} (hx : x = 22 ∨ x = 12) : ¬ hdv (jo j (x :: K)) = 9 ∧ ¬ hdv (jo j (x :: K)) = 10 := by
  unfold jo
  split
  · show ¬ x = 9 ∧ ¬ x = 10; omega
  · show ¬ (11 : Int) = 9 ∧ ¬ (11 : Int) = 10; decide
theorem jo_o {j : Int} {K : List Int} : opn (jo j K) = opn K := by
  unfold jo
  split
  · rfl
  · rw [opn, if_neg (by decide)]; omega
theorem opn9 {K : List Int} : opn (9 :: K) = opn K + 1 := by rw [opn, if_pos (by decide)]; omega
theorem opn12 {K : List Int} : opn (12 :: K) = opn K + 1 := by rw [opn, if_pos (by decide)]; omega
theorem opn10 {K : List Int} : opn (10 :: K) = opn K := by rw [opn, if_neg (by decide)]; omega
section JC
variable {kd nx : Int → Int} {x a b j : Int} {K C W : List Int}
/-- behind a claim: no and -/
theorem jc_e (hx : x = 22 ∨ x = 12) (h : ¬ kd a = 6) : Rch kd nx (10, jo j (x :: K), a, C, W) (12, jo j (x :: K), a, C, W) := r_t (q_10e (jo_h hx).2) (q_11e h)
theorem jc_0 (hx : x = 22 ∨ x = 12) : Rch kd nx (12, jo 0 (x :: K), a, C, W) (13, x :: K, a, C, W) := q_12e (by show ¬ x = 11; omega)
theorem jc_1 (hx : x = 22 ∨ x = 12) (hj : ¬ j = 0) : Rch kd nx (12, jo j (x :: K), a, C, W) (13, x :: K, a, C ++ [-18], W) := by
  unfold jo
  rw [if_neg hj]
  exact r_t q_12o (q_12e (by show ¬ x = 11; omega))
theorem jc_a (hx : x = 22 ∨ x = 12) (h : kd a = 6) (hb : b = nx a) : Rch kd nx (10, jo j (x :: K), a, C, W) (8, 10 :: jo j (x :: K), b, C, W) := by
  subst hb
  exact r_t (q_10e (jo_h hx).2) (q_11a h)
theorem jc_9 (hx : x = 22 ∨ x = 12) : Rch kd nx (9, jo j (x :: K), a, C, W) (10, jo j (x :: K), a, C, W) := q_9e (jo_h hx).1
theorem jc_10 : Rch kd nx (9, 10 :: K, a, C, W) (10, K, a, C ++ [-17], W) := r_t (q_9e (by show ¬ (10 : Int) = 9; decide)) q_10a
end JC
set_option maxRecDepth 100000 in
set_option maxHeartbeats 4000000 in
theorem k_open0 {op9 : Int} {m9 : Nat} (hd : 3 * m9 + 3 ≤ d) (hrd : (rdC f)) (hsz : (f (fv 42 3) 0) ≤ ((f 47 (f (fv 41 6) 0)))) (hop : op9 = 8) (hko : (f (fv 41 7) 0) = 7 ∨ (f (fv 41 7) 0) = 40) (k0 : ∀ f1 : iF, ( (rdC (mx [43, fv 42 3, fv 42 5, fv 41 6, fv 41 7] f f1))) → (∀ K W, opn K = op9 → Rch (kdC f) (nxC f) (8, K, ((f 47 (f (fv 41 6) 0))), (sl (f 43) 0 (f (fv 42 3) 0)), W) (9, K, ((f 47 (f1 (fv 41 6) 0))), (sl (f1 43) 0 (f1 (fv 42 3) 0)), W)) → (f1 (fv 42 3) 0 - ((f 47 (f1 (fv 41 6) 0))) ≤ (f (fv 42 3) 0) - ((f 47 (f (fv 41 6) 0)))) → (((f 47 (f (fv 41 6) 0))) < ((f 47 (f1 (fv 41 6) 0)))) → Q (some (iI 1)) (mx [43, fv 42 3, fv 42 5, fv 41 6, fv 41 7] f f1) g) (k1 : ∀ f1 : iF, (∀ K W, opn K = op9 → flt (kdC f) (nxC f) (8, K, ((f 47 (f (fv 41 6) 0))), (sl (f 43) 0 (f (fv 42 3) 0)), W) (f1 (fv 41 1) 0) (f1 (fv 41 2) 0)) → Q (some (iI 0)) (mx [43, fv 42 3, fv 42 5, fv 41 1, fv 41 2, fv 41 6, fv 41 7] f f1) g) : wq d 134 [iR 41, iI op9] f g Q := by
  obtain ⟨d, rfl⟩ : ∃ e, d = e + 1 := ⟨d - 1, by omega⟩
  refine i_meth0 rfl rfl (fun O J hO => ?_)
  have hb0 := rdC_b hrd
  have hkd0 := rdC_k hrd
  have hki := kdP_r (t := f 40) (len := f (fv 39 1) 0) (a := f 47 (f (fv 41 6) 0))
  rw [show kdP (f 40) (f (fv 39 1) 0) (f 47 (f (fv 41 6) 0)) = f (fv 41 7) 0 from hkd0.symm] at hki
  refine ⟨fun h => absurd (show op9 < 8 from h) (by omega), fun _ => ?_⟩
  refine hO (k_fail (by omega) (show (rdC f) from hrd) ?_)
  refine ⟨show (0 : Int) = 0 ∨ 0 = 1 from by decide, ?_⟩
  have hk := k1 ((wv (wv f (fv 41 1) 0 3) (fv 41 2) 0 ((f 47 (f (fv 41 6) 0))))) (fun K W hK => flt_0 (q_8m (by omega) (by omega)))
  rw [show mx [43, fv 42 3, fv 42 5, fv 41 1, fv 41 2, fv 41 6, fv 41 7] f (wv (wv f (fv 41 1) 0 3) (fv 41 2) 0 ((f 47 (f (fv 41 6) 0)))) = (wv (wv f (fv 41 1) 0 3) (fv 41 2) 0 ((f 47 (f (fv 41 6) 0)))) from ((mx_wv rfl (mx_wv rfl mx_rf))).symm] at hk
  exact hk
set_option maxRecDepth 100000 in
set_option maxHeartbeats 4000000 in
theorem k_openS {op9 : Int} {m9 : Nat} (IHc : ∀ {d : Nat} {f : iF} {g : iG} {Q : Option iv → iF → iG → Prop} {op9 : Int} (hd : 3 * m9 + 4 ≤ d) (hrd : (rdC f)) (hsz : (f (fv 42 3) 0) ≤ ((f 47 (f (fv 41 6) 0)))) (hop : op9 = 8 - (m9 : Int) ∧ 0 ≤ op9) (k0 : ∀ f1 : iF, ( (rdC (mx [43, fv 42 3, fv 42 5, fv 41 6, fv 41 7] f f1))) → (∀ K W, opn K = op9 → Rch (kdC f) (nxC f) (8, K, ((f 47 (f (fv 41 6) 0))), (sl (f 43) 0 (f (fv 42 3) 0)), W) (9, K, ((f 47 (f1 (fv 41 6) 0))), (sl (f1 43) 0 (f1 (fv 42 3) 0)), W)) → (f1 (fv 42 3) 0 - ((f 47 (f1 (fv 41 6) 0))) ≤ (f (fv 42 3) 0) - ((f 47 (f (fv 41 6) 0)))) → (((f 47 (f (fv 41 6) 0))) < ((f 47 (f1 (fv 41 6) 0)))) → Q (some (iI 1)) (mx [43, fv 42 3, fv 42 5, fv 41 6, fv 41 7] f f1) g) (k1 : ∀ f1 : iF, (∀ K W, opn K = op9 → flt (kdC f) (nxC f) (8, K, ((f 47 (f (fv 41 6) 0))), (sl (f 43) 0 (f (fv 42 3) 0)), W) (f1 (fv 41 1) 0) (f1 (fv 41 2) 0)) → Q (some (iI 0)) (mx [43, fv 42 3, fv 42 5, fv 41 1, fv 41 2, fv 41 6, fv 41 7] f f1) g), wq d 133 [iR 41, iI op9] f g Q) (IHh : ∀ {d : Nat} {f : iF} {g : iG} {Q : Option iv → iF → iG → Prop} {op9 : Int} (hd : 3 * m9 + 5 ≤ d) (hrd : (rdC f)) (hsz : (f (fv 42 3) 0) ≤ ((f 47 (f (fv 41 6) 0)))) (hop : op9 = 8 - (m9 : Int) ∧ 0 ≤ op9) (k0 : ∀ f1 : iF, ( (rdC (mx [43, fv 42 3, fv 42 5, fv 41 6, fv 41 7] f f1))) → (∀ x K W, (x = 22 ∨ x = 12) → opn (x :: K) = op9 → Rch (kdC f) (nxC f) (8, x :: K, ((f 47 (f (fv 41 6) 0))), (sl (f 43) 0 (f (fv 42 3) 0)), W) (14, x :: K, ((f 47 (f1 (fv 41 6) 0))), (sl (f1 43) 0 (f1 (fv 42 3) 0)), W)) → (f1 (fv 42 3) 0 - ((f 47 (f1 (fv 41 6) 0))) ≤ (f (fv 42 3) 0) - ((f 47 (f (fv 41 6) 0)))) → (((f 47 (f (fv 41 6) 0))) < ((f 47 (f1 (fv 41 6) 0)))) → Q (some (iI 1)) (mx [43, fv 42 3, fv 42 5, fv 41 6, fv 41 7] f f1) g) (k1 : ∀ f1 : iF, (∀ x K W, (x = 22 ∨ x = 12) → opn (x :: K) = op9 → flt (kdC f) (nxC f) (8, x :: K, ((f 47 (f (fv 41 6) 0))), (sl (f 43) 0 (f (fv 42 3) 0)), W) (f1 (fv 41 1) 0) (f1 (fv 41 2) 0)) → Q (some (iI 0)) (mx [43, fv 42 3, fv 42 5, fv 41 1, fv 41 2, fv 41 6, fv 41 7] f f1) g), wq d 132 [iR 41, iI op9] f g Q) (hd : 3 * (m9 + 1) + 3 ≤ d) (hrd : (rdC f)) (hsz : (f (fv 42 3) 0) ≤ ((f 47 (f (fv 41 6) 0)))) (hop : op9 = 8 - ((m9 : Int) + 1) ∧ 0 ≤ op9) (hko : (f (fv 41 7) 0) = 7 ∨ (f (fv 41 7) 0) = 40) (k0 : ∀ f1 : iF, ( (rdC (mx [43, fv 42 3, fv 42 5, fv 41 6, fv 41 7] f f1))) → (∀ K W, opn K = op9 → Rch (kdC f) (nxC f) (8, K, ((f 47 (f (fv 41 6) 0))), (sl (f 43) 0 (f (fv 42 3) 0)), W) (9, K, ((f 47 (f1 (fv 41 6) 0))), (sl (f1 43) 0 (f1 (fv 42 3) 0)), W)) → (f1 (fv 42 3) 0 - ((f 47 (f1 (fv 41 6) 0))) ≤ (f (fv 42 3) 0) - ((f 47 (f (fv 41 6) 0)))) → (((f 47 (f (fv 41 6) 0))) < ((f 47 (f1 (fv 41 6) 0)))) → Q (some (iI 1)) (mx [43, fv 42 3, fv 42 5, fv 41 6, fv 41 7] f f1) g) (k1 : ∀ f1 : iF, (∀ K W, opn K = op9 → flt (kdC f) (nxC f) (8, K, ((f 47 (f (fv 41 6) 0))), (sl (f 43) 0 (f (fv 42 3) 0)), W) (f1 (fv 41 1) 0) (f1 (fv 41 2) 0)) → Q (some (iI 0)) (mx [43, fv 42 3, fv 42 5, fv 41 1, fv 41 2, fv 41 6, fv 41 7] f f1) g) : wq d 134 [iR 41, iI op9] f g Q := by
  obtain ⟨d, rfl⟩ : ∃ e, d = e + 1 := ⟨d - 1, by omega⟩
  refine i_meth0 rfl rfl (fun O J hO => ?_)
  have hb0 := rdC_b hrd
  have hkd0 := rdC_k hrd
  have hki := kdP_r (t := f 40) (len := f (fv 39 1) 0) (a := f 47 (f (fv 41 6) 0))
  rw [show kdP (f 40) (f (fv 39 1) 0) (f 47 (f (fv 41 6) 0)) = f (fv 41 7) 0 from hkd0.symm] at hki
  refine ⟨fun _ => ?_, fun h => absurd (show op9 < 8 from by omega) h⟩
  refine ⟨fun (hh_1 : f (fv 41 7) 0 = 7) => ?_, fun (hh_1 : ¬ f (fv 41 7) 0 = 7) => ?_⟩
  · refine hO (k_step (by omega) (show (rdC f) from hrd) (show ¬ (f (fv 41 7) 0) = 0 from by omega) (fun f1_2 (hh_3 :  (rdC (mx [fv 41 6, fv 41 7] f f1_2))) (hh_4 : ((f 47 (f1_2 (fv 41 6) 0))) = (nxC f) ((f 47 (f (fv 41 6) 0)))) (hh_5 : ((f 47 (f (fv 41 6) 0))) < (nxC f) ((f 47 (f (fv 41 6) 0)))) => ?_))
    have hs1 := hh_3
    have hs2 := hh_4
    have hs3 := hh_5
    have hsb : f 47 (f1_2 (fv 41 6) 0) ≤ f (fv 39 1) 0 := (rdC_b hh_3).2.1
    have hsk : f1_2 (fv 41 7) 0 = kdC f (f 47 (f1_2 (fv 41 6) 0)) := rdC_k hh_3
    refine ⟨fun h => absurd (show (1 : Int) = 0 from h) (by decide), fun _ => ?_⟩
    refine Or.inl ⟨show inr (op9 + 1) from by constructor <;> omega, ?_⟩
    refine hO (IHc (by omega) (show (rdC (mx [fv 41 6, fv 41 7] f f1_2)) from hs1) (show (f (fv 42 3) 0) ≤ ((f 47 (f1_2 (fv 41 6) 0))) from by omega) (show (op9 + 1) = 8 - (m9 : Int) ∧ 0 ≤ (op9 + 1) from by omega) (fun f1_6 (hh_7 :  (rdC (mx [43, fv 42 3, fv 42 5, fv 41 6, fv 41 7] (mx [fv 41 6, fv 41 7] f f1_2) f1_6))) (hh_8 : ∀ K W, opn K = (op9 + 1) → Rch (kdC f) (nxC f) (8, K, ((f 47 (f1_2 (fv 41 6) 0))), (sl (f 43) 0 (f (fv 42 3) 0)), W) (9, K, ((f 47 (f1_6 (fv 41 6) 0))), (sl (f1_6 43) 0 (f1_6 (fv 42 3) 0)), W)) (hh_9 : f1_6 (fv 42 3) 0 - ((f 47 (f1_6 (fv 41 6) 0))) ≤ (f (fv 42 3) 0) - ((f 47 (f1_2 (fv 41 6) 0)))) (hh_10 : ((f 47 (f1_2 (fv 41 6) 0))) < ((f 47 (f1_6 (fv 41 6) 0)))) => ?_) (fun f1_11 (hh_12 : ∀ K W, opn K = (op9 + 1) → flt (kdC f) (nxC f) (8, K, ((f 47 (f1_2 (fv 41 6) 0))), (sl (f 43) 0 (f (fv 42 3) 0)), W) (f1_11 (fv 41 1) 0) (f1_11 (fv 41 2) 0)) => ?_))
    · have hc1 := hh_7
      have hc2 := hh_8
      have hc3 := hh_9
      have hc4 := hh_10
      have hcb : f 47 (f1_6 (fv 41 6) 0) ≤ f (fv 39 1) 0 := (rdC_b hh_7).2.1
      have hck : f1_6 (fv 41 7) 0 = kdC f (f 47 (f1_6 (fv 41 6) 0)) := rdC_k hh_7
      refine ⟨fun h => absurd (show (1 : Int) = 0 from h) (by decide), fun _ => ?_⟩
      refine hO (k_emit (by omega) (show (rdC (mx [43, fv 42 3, fv 42 5, fv 41 6, fv 41 7] (mx [fv 41 6, fv 41 7] f f1_2) f1_6)) from hc1) (show (f1_6 (fv 42 3) 0) < 400 from by omega) (show -9 ≤ (-19) → (-19) < 0 → bit (f1_6 (fv 42 5) 0) (-1 - (-19)) = true from fun h _ => absurd h (by decide)) (fun f1_13 (hh_14 :  (rdC (mx [43, fv 42 3] (mx [43, fv 42 3, fv 42 5, fv 41 6, fv 41 7] (mx [fv 41 6, fv 41 7] f f1_2) f1_6) f1_13))) (hh_15 : (sl (f1_13 43) 0 (f1_13 (fv 42 3) 0)) = (sl (f1_6 43) 0 (f1_6 (fv 42 3) 0)) ++ [(-19)]) (hh_16 : f1_13 (fv 42 3) 0 = (f1_6 (fv 42 3) 0) + 1) => ?_))
      have he1 := hh_14
      have he2 := hh_15
      have he3 := hh_16
      refine ⟨show (1 : Int) = 0 ∨ 1 = 1 from by decide, ?_⟩
      have hk := k0 ((mx [43, fv 42 3] (mx [43, fv 42 3, fv 42 5, fv 41 6, fv 41 7] (mx [fv 41 6, fv 41 7] f f1_2) f1_6) f1_13)) he1 (fun K W hK => by rw [show sl ((mx [43, fv 42 3] (mx [43, fv 42 3, fv 42 5, fv 41 6, fv 41 7] (mx [fv 41 6, fv 41 7] f f1_2) f1_6) f1_13) 43) 0 ((mx [43, fv 42 3] (mx [43, fv 42 3, fv 42 5, fv 41 6, fv 41 7] (mx [fv 41 6, fv 41 7] f f1_2) f1_6) f1_13) (fv 42 3) 0) = _ from he2]; exact r_t (r_t (q_8n (by omega) (by omega)) (by rw [← hs2]; exact r_0)) (r_t (hc2 (9 :: K) W (by rw [opn9]; omega)) q_9n)) (by have q : (mx [43, fv 42 3] (mx [43, fv 42 3, fv 42 5, fv 41 6, fv 41 7] (mx [fv 41 6, fv 41 7] f f1_2) f1_6) f1_13) (fv 42 3) 0 = _ := he3; show (mx [43, fv 42 3] (mx [43, fv 42 3, fv 42 5, fv 41 6, fv 41 7] (mx [fv 41 6, fv 41 7] f f1_2) f1_6) f1_13) (fv 42 3) 0 - f 47 ((mx [43, fv 42 3] (mx [43, fv 42 3, fv 42 5, fv 41 6, fv 41 7] (mx [fv 41 6, fv 41 7] f f1_2) f1_6) f1_13) (fv 41 6) 0) ≤ _; have q2 : f 47 ((mx [43, fv 42 3] (mx [43, fv 42 3, fv 42 5, fv 41 6, fv 41 7] (mx [fv 41 6, fv 41 7] f f1_2) f1_6) f1_13) (fv 41 6) 0) = f 47 (f1_6 (fv 41 6) 0) := rfl; omega) (by have q2 : f 47 ((mx [43, fv 42 3] (mx [43, fv 42 3, fv 42 5, fv 41 6, fv 41 7] (mx [fv 41 6, fv 41 7] f f1_2) f1_6) f1_13) (fv 41 6) 0) = f 47 (f1_6 (fv 41 6) 0) := rfl; omega)
      rw [show mx [43, fv 42 3, fv 42 5, fv 41 6, fv 41 7] f (mx [43, fv 42 3] (mx [43, fv 42 3, fv 42 5, fv 41 6, fv 41 7] (mx [fv 41 6, fv 41 7] f f1_2) f1_6) f1_13) = (mx [43, fv 42 3] (mx [43, fv 42 3, fv 42 5, fv 41 6, fv 41 7] (mx [fv 41 6, fv 41 7] f f1_2) f1_6) f1_13) from ((mx_mx rfl (mx_mx rfl (mx_mx rfl mx_rf)))).symm] at hk
      exact hk
    · have hf1 := hh_12
      refine ⟨fun _ => ?_, fun h => absurd (show (0 : Int) = 0 from by decide) h⟩
      refine ⟨show (0 : Int) = 0 ∨ 0 = 1 from by decide, ?_⟩
      have hk := k1 ((mx [43, fv 42 3, fv 42 5, fv 41 1, fv 41 2, fv 41 6, fv 41 7] (mx [fv 41 6, fv 41 7] f f1_2) f1_11)) (fun K W hK => flt_r (r_t (q_8n (by omega) (by omega)) (by rw [← hs2]; exact r_0)) (hf1 (9 :: K) W (by rw [opn9]; omega)))
      rw [show mx [43, fv 42 3, fv 42 5, fv 41 1, fv 41 2, fv 41 6, fv 41 7] f (mx [43, fv 42 3, fv 42 5, fv 41 1, fv 41 2, fv 41 6, fv 41 7] (mx [fv 41 6, fv 41 7] f f1_2) f1_11) = (mx [43, fv 42 3, fv 42 5, fv 41 1, fv 41 2, fv 41 6, fv 41 7] (mx [fv 41 6, fv 41 7] f f1_2) f1_11) from ((mx_mx rfl (mx_mx rfl mx_rf))).symm] at hk
      exact hk
  · refine hO (k_step (by omega) (show (rdC f) from hrd) (show ¬ (f (fv 41 7) 0) = 0 from by omega) (fun f1_17 (hh_18 :  (rdC (mx [fv 41 6, fv 41 7] f f1_17))) (hh_19 : ((f 47 (f1_17 (fv 41 6) 0))) = (nxC f) ((f 47 (f (fv 41 6) 0)))) (hh_20 : ((f 47 (f (fv 41 6) 0))) < (nxC f) ((f 47 (f (fv 41 6) 0)))) => ?_))
    have hs1 := hh_18
    have hs2 := hh_19
    have hs3 := hh_20
    have hsb : f 47 (f1_17 (fv 41 6) 0) ≤ f (fv 39 1) 0 := (rdC_b hh_18).2.1
    have hsk : f1_17 (fv 41 7) 0 = kdC f (f 47 (f1_17 (fv 41 6) 0)) := rdC_k hh_18
    refine ⟨fun _ => ?_, fun h => absurd (show (0 : Int) = 0 from by decide) h⟩
    refine Or.inl ⟨show inr (op9 + 1) from by constructor <;> omega, ?_⟩
    refine hO (IHh (by omega) (show (rdC (mx [fv 41 6, fv 41 7] f f1_17)) from hs1) (show (f (fv 42 3) 0) ≤ ((f 47 (f1_17 (fv 41 6) 0))) from by omega) (show (op9 + 1) = 8 - (m9 : Int) ∧ 0 ≤ (op9 + 1) from by omega) (fun f1_21 (hh_22 :  (rdC (mx [43, fv 42 3, fv 42 5, fv 41 6, fv 41 7] (mx [fv 41 6, fv 41 7] f f1_17) f1_21))) (hh_23 : ∀ x K W, (x = 22 ∨ x = 12) → opn (x :: K) = (op9 + 1) → Rch (kdC f) (nxC f) (8, x :: K, ((f 47 (f1_17 (fv 41 6) 0))), (sl (f 43) 0 (f (fv 42 3) 0)), W) (14, x :: K, ((f 47 (f1_21 (fv 41 6) 0))), (sl (f1_21 43) 0 (f1_21 (fv 42 3) 0)), W)) (hh_24 : f1_21 (fv 42 3) 0 - ((f 47 (f1_21 (fv 41 6) 0))) ≤ (f (fv 42 3) 0) - ((f 47 (f1_17 (fv 41 6) 0)))) (hh_25 : ((f 47 (f1_17 (fv 41 6) 0))) < ((f 47 (f1_21 (fv 41 6) 0)))) => ?_) (fun f1_26 (hh_27 : ∀ x K W, (x = 22 ∨ x = 12) → opn (x :: K) = (op9 + 1) → flt (kdC f) (nxC f) (8, x :: K, ((f 47 (f1_17 (fv 41 6) 0))), (sl (f 43) 0 (f (fv 42 3) 0)), W) (f1_26 (fv 41 1) 0) (f1_26 (fv 41 2) 0)) => ?_))
    · have hc1 := hh_22
      have hc2 := hh_23
      have hc3 := hh_24
      have hc4 := hh_25
      have hcb : f 47 (f1_21 (fv 41 6) 0) ≤ f (fv 39 1) 0 := (rdC_b hh_22).2.1
      have hck : f1_21 (fv 41 7) 0 = kdC f (f 47 (f1_21 (fv 41 6) 0)) := rdC_k hh_22
      refine ⟨fun h => absurd (show (1 : Int) = 0 from h) (by decide), fun _ => ?_⟩
      refine ⟨fun (hh_28 : f1_21 (fv 41 7) 0 = 41) => ?_, fun (hh_28 : ¬ f1_21 (fv 41 7) 0 = 41) => ?_⟩
      · refine hO (k_step (by omega) (show (rdC (mx [43, fv 42 3, fv 42 5, fv 41 6, fv 41 7] (mx [fv 41 6, fv 41 7] f f1_17) f1_21)) from hc1) (show ¬ (f1_21 (fv 41 7) 0) = 0 from by omega) (fun f1_29 (hh_30 :  (rdC (mx [fv 41 6, fv 41 7] (mx [43, fv 42 3, fv 42 5, fv 41 6, fv 41 7] (mx [fv 41 6, fv 41 7] f f1_17) f1_21) f1_29))) (hh_31 : ((f 47 (f1_29 (fv 41 6) 0))) = (nxC f) ((f 47 (f1_21 (fv 41 6) 0)))) (hh_32 : ((f 47 (f1_21 (fv 41 6) 0))) < (nxC f) ((f 47 (f1_21 (fv 41 6) 0)))) => ?_))
        have ht1 := hh_30
        have ht2 := hh_31
        have ht3 := hh_32
        have htb : f 47 (f1_29 (fv 41 6) 0) ≤ f (fv 39 1) 0 := (rdC_b hh_30).2.1
        have htk : f1_29 (fv 41 7) 0 = kdC f (f 47 (f1_29 (fv 41 6) 0)) := rdC_k hh_30
        refine ⟨show (1 : Int) = 0 ∨ 1 = 1 from by decide, ?_⟩
        have hk := k0 ((mx [fv 41 6, fv 41 7] (mx [43, fv 42 3, fv 42 5, fv 41 6, fv 41 7] (mx [fv 41 6, fv 41 7] f f1_17) f1_21) f1_29)) ht1 (fun K W hK => by rw [show f 47 ((mx [fv 41 6, fv 41 7] (mx [43, fv 42 3, fv 42 5, fv 41 6, fv 41 7] (mx [fv 41 6, fv 41 7] f f1_17) f1_21) f1_29) (fv 41 6) 0) = _ from ht2]; exact r_t (r_t (q_8b (by omega) (by omega)) (by rw [← hs2]; exact r_0)) (r_t (hc2 12 K W (Or.inr rfl) (by rw [opn12]; omega)) (q_14c (by decide) (by omega)))) (by have q2 : f 47 ((mx [fv 41 6, fv 41 7] (mx [43, fv 42 3, fv 42 5, fv 41 6, fv 41 7] (mx [fv 41 6, fv 41 7] f f1_17) f1_21) f1_29) (fv 41 6) 0) = _ := ht2; have q : (mx [fv 41 6, fv 41 7] (mx [43, fv 42 3, fv 42 5, fv 41 6, fv 41 7] (mx [fv 41 6, fv 41 7] f f1_17) f1_21) f1_29) (fv 42 3) 0 = f1_21 (fv 42 3) 0 := rfl; omega) (by have q2 : f 47 ((mx [fv 41 6, fv 41 7] (mx [43, fv 42 3, fv 42 5, fv 41 6, fv 41 7] (mx [fv 41 6, fv 41 7] f f1_17) f1_21) f1_29) (fv 41 6) 0) = _ := ht2; omega)
        rw [show mx [43, fv 42 3, fv 42 5, fv 41 6, fv 41 7] f (mx [fv 41 6, fv 41 7] (mx [43, fv 42 3, fv 42 5, fv 41 6, fv 41 7] (mx [fv 41 6, fv 41 7] f f1_17) f1_21) f1_29) = (mx [fv 41 6, fv 41 7] (mx [43, fv 42 3, fv 42 5, fv 41 6, fv 41 7] (mx [fv 41 6, fv 41 7] f f1_17) f1_21) f1_29) from ((mx_mx rfl (mx_mx rfl (mx_mx rfl mx_rf)))).symm] at hk
        exact hk
      · refine hO (k_fail (by omega) (show (rdC (mx [43, fv 42 3, fv 42 5, fv 41 6, fv 41 7] (mx [fv 41 6, fv 41 7] f f1_17) f1_21)) from hc1) ?_)
        refine ⟨show (0 : Int) = 0 ∨ 0 = 1 from by decide, ?_⟩
        have hk := k1 ((wv (wv (mx [43, fv 42 3, fv 42 5, fv 41 6, fv 41 7] (mx [fv 41 6, fv 41 7] f f1_17) f1_21) (fv 41 1) 0 1) (fv 41 2) 0 ((f 47 (f1_21 (fv 41 6) 0))))) (fun K W hK => flt_r (r_t (r_t (q_8b (by omega) (by omega)) (by rw [← hs2]; exact r_0)) (hc2 12 K W (Or.inr rfl) (by rw [opn12]; omega))) (flt_0 (q_14f (by decide) (by omega))))
        rw [show mx [43, fv 42 3, fv 42 5, fv 41 1, fv 41 2, fv 41 6, fv 41 7] f (wv (wv (mx [43, fv 42 3, fv 42 5, fv 41 6, fv 41 7] (mx [fv 41 6, fv 41 7] f f1_17) f1_21) (fv 41 1) 0 1) (fv 41 2) 0 ((f 47 (f1_21 (fv 41 6) 0)))) = (wv (wv (mx [43, fv 42 3, fv 42 5, fv 41 6, fv 41 7] (mx [fv 41 6, fv 41 7] f f1_17) f1_21) (fv 41 1) 0 1) (fv 41 2) 0 ((f 47 (f1_21 (fv 41 6) 0)))) from ((mx_wv rfl (mx_wv rfl (mx_mx rfl (mx_mx rfl mx_rf))))).symm] at hk
        exact hk
    · have hf1 := hh_27
      refine ⟨fun _ => ?_, fun h => absurd (show (0 : Int) = 0 from by decide) h⟩
      refine ⟨show (0 : Int) = 0 ∨ 0 = 1 from by decide, ?_⟩
      have hk := k1 ((mx [43, fv 42 3, fv 42 5, fv 41 1, fv 41 2, fv 41 6, fv 41 7] (mx [fv 41 6, fv 41 7] f f1_17) f1_26)) (fun K W hK => flt_r (r_t (q_8b (by omega) (by omega)) (by rw [← hs2]; exact r_0)) (hf1 12 K W (Or.inr rfl) (by rw [opn12]; omega)))
      rw [show mx [43, fv 42 3, fv 42 5, fv 41 1, fv 41 2, fv 41 6, fv 41 7] f (mx [43, fv 42 3, fv 42 5, fv 41 1, fv 41 2, fv 41 6, fv 41 7] (mx [fv 41 6, fv 41 7] f f1_17) f1_26) = (mx [43, fv 42 3, fv 42 5, fv 41 1, fv 41 2, fv 41 6, fv 41 7] (mx [fv 41 6, fv 41 7] f f1_17) f1_26) from ((mx_mx rfl (mx_mx rfl mx_rf))).symm] at hk
      exact hk
set_option maxRecDepth 100000 in
set_option maxHeartbeats 4000000 in
theorem k_claimS {op9 : Int} {m9 : Nat} (IHo : ∀ {d : Nat} {f : iF} {g : iG} {Q : Option iv → iF → iG → Prop} {op9 : Int} (hd : 3 * m9 + 3 ≤ d) (hrd : (rdC f)) (hsz : (f (fv 42 3) 0) ≤ ((f 47 (f (fv 41 6) 0)))) (hop : op9 = 8 - (m9 : Int) ∧ 0 ≤ op9) (hko : (f (fv 41 7) 0) = 7 ∨ (f (fv 41 7) 0) = 40) (k0 : ∀ f1 : iF, ( (rdC (mx [43, fv 42 3, fv 42 5, fv 41 6, fv 41 7] f f1))) → (∀ K W, opn K = op9 → Rch (kdC f) (nxC f) (8, K, ((f 47 (f (fv 41 6) 0))), (sl (f 43) 0 (f (fv 42 3) 0)), W) (9, K, ((f 47 (f1 (fv 41 6) 0))), (sl (f1 43) 0 (f1 (fv 42 3) 0)), W)) → (f1 (fv 42 3) 0 - ((f 47 (f1 (fv 41 6) 0))) ≤ (f (fv 42 3) 0) - ((f 47 (f (fv 41 6) 0)))) → (((f 47 (f (fv 41 6) 0))) < ((f 47 (f1 (fv 41 6) 0)))) → Q (some (iI 1)) (mx [43, fv 42 3, fv 42 5, fv 41 6, fv 41 7] f f1) g) (k1 : ∀ f1 : iF, (∀ K W, opn K = op9 → flt (kdC f) (nxC f) (8, K, ((f 47 (f (fv 41 6) 0))), (sl (f 43) 0 (f (fv 42 3) 0)), W) (f1 (fv 41 1) 0) (f1 (fv 41 2) 0)) → Q (some (iI 0)) (mx [43, fv 42 3, fv 42 5, fv 41 1, fv 41 2, fv 41 6, fv 41 7] f f1) g), wq d 134 [iR 41, iI op9] f g Q) (hd : 3 * m9 + 4 ≤ d) (hrd : (rdC f)) (hsz : (f (fv 42 3) 0) ≤ ((f 47 (f (fv 41 6) 0)))) (hop : op9 = 8 - (m9 : Int) ∧ 0 ≤ op9) (k0 : ∀ f1 : iF, ( (rdC (mx [43, fv 42 3, fv 42 5, fv 41 6, fv 41 7] f f1))) → (∀ K W, opn K = op9 → Rch (kdC f) (nxC f) (8, K, ((f 47 (f (fv 41 6) 0))), (sl (f 43) 0 (f (fv 42 3) 0)), W) (9, K, ((f 47 (f1 (fv 41 6) 0))), (sl (f1 43) 0 (f1 (fv 42 3) 0)), W)) → (f1 (fv 42 3) 0 - ((f 47 (f1 (fv 41 6) 0))) ≤ (f (fv 42 3) 0) - ((f 47 (f (fv 41 6) 0)))) → (((f 47 (f (fv 41 6) 0))) < ((f 47 (f1 (fv 41 6) 0)))) → Q (some (iI 1)) (mx [43, fv 42 3, fv 42 5, fv 41 6, fv 41 7] f f1) g) (k1 : ∀ f1 : iF, (∀ K W, opn K = op9 → flt (kdC f) (nxC f) (8, K, ((f 47 (f (fv 41 6) 0))), (sl (f 43) 0 (f (fv 42 3) 0)), W) (f1 (fv 41 1) 0) (f1 (fv 41 2) 0)) → Q (some (iI 0)) (mx [43, fv 42 3, fv 42 5, fv 41 1, fv 41 2, fv 41 6, fv 41 7] f f1) g) : wq d 133 [iR 41, iI op9] f g Q := by
  obtain ⟨d, rfl⟩ : ∃ e, d = e + 1 := ⟨d - 1, by omega⟩
  refine i_meth0 rfl rfl (fun O J hO => ?_)
  have hb0 := rdC_b hrd
  have hkd0 := rdC_k hrd
  have hki := kdP_r (t := f 40) (len := f (fv 39 1) 0) (a := f 47 (f (fv 41 6) 0))
  rw [show kdP (f 40) (f (fv 39 1) 0) (f 47 (f (fv 41 6) 0)) = f (fv 41 7) 0 from hkd0.symm] at hki
  refine ⟨fun (hh_1 : f (fv 41 7) 0 = 7) => ?_, fun (hh_1 : ¬ f (fv 41 7) 0 = 7) => ?_⟩
  · refine hO (IHo (by omega) (show (rdC f) from hrd) (show (f (fv 42 3) 0) ≤ ((f 47 (f (fv 41 6) 0))) from hsz) (show op9 = 8 - (m9 : Int) ∧ 0 ≤ op9 from hop) (show (f (fv 41 7) 0) = 7 ∨ (f (fv 41 7) 0) = 40 from by omega) (fun f1_2 (hh_3 :  (rdC (mx [43, fv 42 3, fv 42 5, fv 41 6, fv 41 7] f f1_2))) (hh_4 : ∀ K W, opn K = op9 → Rch (kdC f) (nxC f) (8, K, ((f 47 (f (fv 41 6) 0))), (sl (f 43) 0 (f (fv 42 3) 0)), W) (9, K, ((f 47 (f1_2 (fv 41 6) 0))), (sl (f1_2 43) 0 (f1_2 (fv 42 3) 0)), W)) (hh_5 : f1_2 (fv 42 3) 0 - ((f 47 (f1_2 (fv 41 6) 0))) ≤ (f (fv 42 3) 0) - ((f 47 (f (fv 41 6) 0)))) (hh_6 : ((f 47 (f (fv 41 6) 0))) < ((f 47 (f1_2 (fv 41 6) 0)))) => ?_) (fun f1_7 (hh_8 : ∀ K W, opn K = op9 → flt (kdC f) (nxC f) (8, K, ((f 47 (f (fv 41 6) 0))), (sl (f 43) 0 (f (fv 42 3) 0)), W) (f1_7 (fv 41 1) 0) (f1_7 (fv 41 2) 0)) => ?_))
    · have hc1 := hh_3
      have hc2 := hh_4
      have hc3 := hh_5
      have hc4 := hh_6
      have hcb : f 47 (f1_2 (fv 41 6) 0) ≤ f (fv 39 1) 0 := (rdC_b hh_3).2.1
      have hck : f1_2 (fv 41 7) 0 = kdC f (f 47 (f1_2 (fv 41 6) 0)) := rdC_k hh_3
      refine ⟨show (1 : Int) = 0 ∨ 1 = 1 from by decide, ?_⟩
      have hk := k0 (f1_2) hc1 hc2 hc3 hc4
      exact hk
    · have hf1 := hh_8
      refine ⟨show (0 : Int) = 0 ∨ 0 = 1 from by decide, ?_⟩
      have hk := k1 (f1_7) hf1
      exact hk
  · refine ⟨fun (hh_9 : f (fv 41 7) 0 = 40) => ?_, fun (hh_9 : ¬ f (fv 41 7) 0 = 40) => ?_⟩
    · refine hO (IHo (by omega) (show (rdC f) from hrd) (show (f (fv 42 3) 0) ≤ ((f 47 (f (fv 41 6) 0))) from hsz) (show op9 = 8 - (m9 : Int) ∧ 0 ≤ op9 from hop) (show (f (fv 41 7) 0) = 7 ∨ (f (fv 41 7) 0) = 40 from by omega) (fun f1_10 (hh_11 :  (rdC (mx [43, fv 42 3, fv 42 5, fv 41 6, fv 41 7] f f1_10))) (hh_12 : ∀ K W, opn K = op9 → Rch (kdC f) (nxC f) (8, K, ((f 47 (f (fv 41 6) 0))), (sl (f 43) 0 (f (fv 42 3) 0)), W) (9, K, ((f 47 (f1_10 (fv 41 6) 0))), (sl (f1_10 43) 0 (f1_10 (fv 42 3) 0)), W)) (hh_13 : f1_10 (fv 42 3) 0 - ((f 47 (f1_10 (fv 41 6) 0))) ≤ (f (fv 42 3) 0) - ((f 47 (f (fv 41 6) 0)))) (hh_14 : ((f 47 (f (fv 41 6) 0))) < ((f 47 (f1_10 (fv 41 6) 0)))) => ?_) (fun f1_15 (hh_16 : ∀ K W, opn K = op9 → flt (kdC f) (nxC f) (8, K, ((f 47 (f (fv 41 6) 0))), (sl (f 43) 0 (f (fv 42 3) 0)), W) (f1_15 (fv 41 1) 0) (f1_15 (fv 41 2) 0)) => ?_))
      · have hc1 := hh_11
        have hc2 := hh_12
        have hc3 := hh_13
        have hc4 := hh_14
        have hcb : f 47 (f1_10 (fv 41 6) 0) ≤ f (fv 39 1) 0 := (rdC_b hh_11).2.1
        have hck : f1_10 (fv 41 7) 0 = kdC f (f 47 (f1_10 (fv 41 6) 0)) := rdC_k hh_11
        refine ⟨show (1 : Int) = 0 ∨ 1 = 1 from by decide, ?_⟩
        have hk := k0 (f1_10) hc1 hc2 hc3 hc4
        exact hk
      · have hf1 := hh_16
        refine ⟨show (0 : Int) = 0 ∨ 0 = 1 from by decide, ?_⟩
        have hk := k1 (f1_15) hf1
        exact hk
    · refine hO (k_sum (by omega) (show (rdC f) from hrd) (show (f (fv 42 3) 0) ≤ ((f 47 (f (fv 41 6) 0))) from hsz) (fun f1_17 (hh_18 :  (rdC (mx [43, fv 42 3, fv 42 5, fv 41 6, fv 41 7] f f1_17))) (hh_19 : ∀ x K W, okx x → Rch (kdC f) (nxC f) (1, x :: K, ((f 47 (f (fv 41 6) 0))), (sl (f 43) 0 (f (fv 42 3) 0)), W) (6, x :: K, ((f 47 (f1_17 (fv 41 6) 0))), (sl (f1_17 43) 0 (f1_17 (fv 42 3) 0)), W)) (hh_20 : f1_17 (fv 42 3) 0 - ((f 47 (f1_17 (fv 41 6) 0))) ≤ (f (fv 42 3) 0) - ((f 47 (f (fv 41 6) 0)))) (hh_21 : ((f 47 (f (fv 41 6) 0))) < ((f 47 (f1_17 (fv 41 6) 0)))) => ?_) (fun f1_22 (hh_23 : ∀ x K W, okx x → flt (kdC f) (nxC f) (1, x :: K, ((f 47 (f (fv 41 6) 0))), (sl (f 43) 0 (f (fv 42 3) 0)), W) (f1_22 (fv 41 1) 0) (f1_22 (fv 41 2) 0)) => ?_))
      · have hc1 := hh_18
        have hc2 := hh_19
        have hc3 := hh_20
        have hc4 := hh_21
        have hcb : f 47 (f1_17 (fv 41 6) 0) ≤ f (fv 39 1) 0 := (rdC_b hh_18).2.1
        have hck : f1_17 (fv 41 7) 0 = kdC f (f 47 (f1_17 (fv 41 6) 0)) := rdC_k hh_18
        refine ⟨fun h => absurd (show (1 : Int) = 0 from h) (by decide), fun _ => ?_⟩
        refine ⟨fun (hh_24 : f1_17 (fv 41 7) 0 = 60) => ?_, fun (hh_24 : ¬ f1_17 (fv 41 7) 0 = 60) => ?_⟩
        · refine ⟨fun _ => ?_, fun h => absurd hh_24 h⟩
          refine hO (k_step (by omega) (show (rdC (mx [43, fv 42 3, fv 42 5, fv 41 6, fv 41 7] f f1_17)) from hc1) (show ¬ (f1_17 (fv 41 7) 0) = 0 from by omega) (fun f1_25 (hh_26 :  (rdC (mx [fv 41 6, fv 41 7] (mx [43, fv 42 3, fv 42 5, fv 41 6, fv 41 7] f f1_17) f1_25))) (hh_27 : ((f 47 (f1_25 (fv 41 6) 0))) = (nxC f) ((f 47 (f1_17 (fv 41 6) 0)))) (hh_28 : ((f 47 (f1_17 (fv 41 6) 0))) < (nxC f) ((f 47 (f1_17 (fv 41 6) 0)))) => ?_))
          have hs1 := hh_26
          have hs2 := hh_27
          have hs3 := hh_28
          have hsb : f 47 (f1_25 (fv 41 6) 0) ≤ f (fv 39 1) 0 := (rdC_b hh_26).2.1
          have hsk : f1_25 (fv 41 7) 0 = kdC f (f 47 (f1_25 (fv 41 6) 0)) := rdC_k hh_26
          refine hO (k_sum (by omega) (show (rdC (mx [fv 41 6, fv 41 7] (mx [43, fv 42 3, fv 42 5, fv 41 6, fv 41 7] f f1_17) f1_25)) from hs1) (show (f1_17 (fv 42 3) 0) ≤ ((f 47 (f1_25 (fv 41 6) 0))) from by omega) (fun f1_29 (hh_30 :  (rdC (mx [43, fv 42 3, fv 42 5, fv 41 6, fv 41 7] (mx [fv 41 6, fv 41 7] (mx [43, fv 42 3, fv 42 5, fv 41 6, fv 41 7] f f1_17) f1_25) f1_29))) (hh_31 : ∀ x K W, okx x → Rch (kdC f) (nxC f) (1, x :: K, ((f 47 (f1_25 (fv 41 6) 0))), (sl (f1_17 43) 0 (f1_17 (fv 42 3) 0)), W) (6, x :: K, ((f 47 (f1_29 (fv 41 6) 0))), (sl (f1_29 43) 0 (f1_29 (fv 42 3) 0)), W)) (hh_32 : f1_29 (fv 42 3) 0 - ((f 47 (f1_29 (fv 41 6) 0))) ≤ (f1_17 (fv 42 3) 0) - ((f 47 (f1_25 (fv 41 6) 0)))) (hh_33 : ((f 47 (f1_25 (fv 41 6) 0))) < ((f 47 (f1_29 (fv 41 6) 0)))) => ?_) (fun f1_34 (hh_35 : ∀ x K W, okx x → flt (kdC f) (nxC f) (1, x :: K, ((f 47 (f1_25 (fv 41 6) 0))), (sl (f1_17 43) 0 (f1_17 (fv 42 3) 0)), W) (f1_34 (fv 41 1) 0) (f1_34 (fv 41 2) 0)) => ?_))
          · have hd1 := hh_30
            have hd2 := hh_31
            have hd3 := hh_32
            have hd4 := hh_33
            have hdb : f 47 (f1_29 (fv 41 6) 0) ≤ f (fv 39 1) 0 := (rdC_b hh_30).2.1
            have hdk : f1_29 (fv 41 7) 0 = kdC f (f 47 (f1_29 (fv 41 6) 0)) := rdC_k hh_30
            refine ⟨fun h => absurd (show (1 : Int) = 0 from h) (by decide), fun _ => ?_⟩
            refine hO (k_emit (by omega) (show (rdC (mx [43, fv 42 3, fv 42 5, fv 41 6, fv 41 7] (mx [fv 41 6, fv 41 7] (mx [43, fv 42 3, fv 42 5, fv 41 6, fv 41 7] f f1_17) f1_25) f1_29)) from hd1) (show (f1_29 (fv 42 3) 0) < 400 from by omega) (show -9 ≤ (-14) → (-14) < 0 → bit (f1_29 (fv 42 5) 0) (-1 - (-14)) = true from fun h _ => absurd h (by decide)) (fun f1_36 (hh_37 :  (rdC (mx [43, fv 42 3] (mx [43, fv 42 3, fv 42 5, fv 41 6, fv 41 7] (mx [fv 41 6, fv 41 7] (mx [43, fv 42 3, fv 42 5, fv 41 6, fv 41 7] f f1_17) f1_25) f1_29) f1_36))) (hh_38 : (sl (f1_36 43) 0 (f1_36 (fv 42 3) 0)) = (sl (f1_29 43) 0 (f1_29 (fv 42 3) 0)) ++ [(-14)]) (hh_39 : f1_36 (fv 42 3) 0 = (f1_29 (fv 42 3) 0) + 1) => ?_))
            have he1 := hh_37
            have he2 := hh_38
            have he3 := hh_39
            refine ⟨show (1 : Int) = 0 ∨ 1 = 1 from by decide, ?_⟩
            have hk := k0 ((mx [43, fv 42 3] (mx [43, fv 42 3, fv 42 5, fv 41 6, fv 41 7] (mx [fv 41 6, fv 41 7] f1_17 f1_25) f1_29) f1_36)) he1 (fun K W hK => by rw [show sl ((mx [43, fv 42 3] (mx [43, fv 42 3, fv 42 5, fv 41 6, fv 41 7] (mx [fv 41 6, fv 41 7] f1_17 f1_25) f1_29) f1_36) 43) 0 ((mx [43, fv 42 3] (mx [43, fv 42 3, fv 42 5, fv 41 6, fv 41 7] (mx [fv 41 6, fv 41 7] f1_17 f1_25) f1_29) f1_36) (fv 42 3) 0) = _ from he2]; first | exact r_t (r_t (r_t (r_t (q_8c (by omega) (by omega)) (hc2 21 K W (Or.inl (by decide)))) (r_t (q_6_60 (by omega)) (by rw [← hs2]; exact r_0))) (hd2 6 K W (Or.inr (by decide)))) (q_6c (by decide) (by decide)) | exact r_t (r_t (r_t (r_t (q_8c (by omega) (by omega)) (hc2 21 K W (Or.inl (by decide)))) (r_t (q_6_61 (by omega)) (by rw [← hs2]; exact r_0))) (hd2 7 K W (Or.inr (by decide)))) (q_6c (by decide) (by decide)) | exact r_t (r_t (r_t (r_t (q_8c (by omega) (by omega)) (hc2 21 K W (Or.inl (by decide)))) (r_t (q_6_62 (by omega)) (by rw [← hs2]; exact r_0))) (hd2 8 K W (Or.inr (by decide)))) (q_6c (by decide) (by decide))) (by have q : (mx [43, fv 42 3] (mx [43, fv 42 3, fv 42 5, fv 41 6, fv 41 7] (mx [fv 41 6, fv 41 7] f1_17 f1_25) f1_29) f1_36) (fv 42 3) 0 = _ := he3; have q2 : f 47 ((mx [43, fv 42 3] (mx [43, fv 42 3, fv 42 5, fv 41 6, fv 41 7] (mx [fv 41 6, fv 41 7] f1_17 f1_25) f1_29) f1_36) (fv 41 6) 0) = f 47 (f1_29 (fv 41 6) 0) := rfl; omega) (by have q2 : f 47 ((mx [43, fv 42 3] (mx [43, fv 42 3, fv 42 5, fv 41 6, fv 41 7] (mx [fv 41 6, fv 41 7] f1_17 f1_25) f1_29) f1_36) (fv 41 6) 0) = f 47 (f1_29 (fv 41 6) 0) := rfl; omega)
            rw [show mx [43, fv 42 3, fv 42 5, fv 41 6, fv 41 7] f (mx [43, fv 42 3] (mx [43, fv 42 3, fv 42 5, fv 41 6, fv 41 7] (mx [fv 41 6, fv 41 7] f1_17 f1_25) f1_29) f1_36) = (mx [43, fv 42 3] (mx [43, fv 42 3, fv 42 5, fv 41 6, fv 41 7] (mx [fv 41 6, fv 41 7] (mx [43, fv 42 3, fv 42 5, fv 41 6, fv 41 7] f f1_17) f1_25) f1_29) f1_36) from ((mx_mx rfl (mx_mx rfl (mx_mx rfl rfl)))).symm] at hk
            exact hk
          · have hg1 := hh_35
            refine ⟨fun _ => ?_, fun h => absurd (show (0 : Int) = 0 from by decide) h⟩
            refine ⟨show (0 : Int) = 0 ∨ 0 = 1 from by decide, ?_⟩
            have hk := k1 ((mx [43, fv 42 3, fv 42 5, fv 41 1, fv 41 2, fv 41 6, fv 41 7] (mx [fv 41 6, fv 41 7] (mx [43, fv 42 3, fv 42 5, fv 41 6, fv 41 7] f f1_17) f1_25) f1_34)) (fun K W hK => by first | exact flt_r (r_t (r_t (q_8c (by omega) (by omega)) (hc2 21 K W (Or.inl (by decide)))) (r_t (q_6_60 (by omega)) (by rw [← hs2]; exact r_0))) (hg1 6 K W (Or.inr (by decide))) | exact flt_r (r_t (r_t (q_8c (by omega) (by omega)) (hc2 21 K W (Or.inl (by decide)))) (r_t (q_6_61 (by omega)) (by rw [← hs2]; exact r_0))) (hg1 7 K W (Or.inr (by decide))) | exact flt_r (r_t (r_t (q_8c (by omega) (by omega)) (hc2 21 K W (Or.inl (by decide)))) (r_t (q_6_62 (by omega)) (by rw [← hs2]; exact r_0))) (hg1 8 K W (Or.inr (by decide))))
            rw [show mx [43, fv 42 3, fv 42 5, fv 41 1, fv 41 2, fv 41 6, fv 41 7] f (mx [43, fv 42 3, fv 42 5, fv 41 1, fv 41 2, fv 41 6, fv 41 7] (mx [fv 41 6, fv 41 7] (mx [43, fv 42 3, fv 42 5, fv 41 6, fv 41 7] f f1_17) f1_25) f1_34) = (mx [43, fv 42 3, fv 42 5, fv 41 1, fv 41 2, fv 41 6, fv 41 7] (mx [fv 41 6, fv 41 7] (mx [43, fv 42 3, fv 42 5, fv 41 6, fv 41 7] f f1_17) f1_25) f1_34) from ((mx_mx rfl (mx_mx rfl (mx_mx rfl mx_rf)))).symm] at hk
            exact hk
        · refine ⟨fun (hh_40 : f1_17 (fv 41 7) 0 = 61) => ?_, fun (hh_40 : ¬ f1_17 (fv 41 7) 0 = 61) => ?_⟩
          · refine ⟨fun h => absurd h hh_24, fun _ => ?_⟩
            refine ⟨fun _ => ?_, fun h => absurd hh_40 h⟩
            refine hO (k_step (by omega) (show (rdC (mx [43, fv 42 3, fv 42 5, fv 41 6, fv 41 7] f f1_17)) from hc1) (show ¬ (f1_17 (fv 41 7) 0) = 0 from by omega) (fun f1_41 (hh_42 :  (rdC (mx [fv 41 6, fv 41 7] (mx [43, fv 42 3, fv 42 5, fv 41 6, fv 41 7] f f1_17) f1_41))) (hh_43 : ((f 47 (f1_41 (fv 41 6) 0))) = (nxC f) ((f 47 (f1_17 (fv 41 6) 0)))) (hh_44 : ((f 47 (f1_17 (fv 41 6) 0))) < (nxC f) ((f 47 (f1_17 (fv 41 6) 0)))) => ?_))
            have hs1 := hh_42
            have hs2 := hh_43
            have hs3 := hh_44
            have hsb : f 47 (f1_41 (fv 41 6) 0) ≤ f (fv 39 1) 0 := (rdC_b hh_42).2.1
            have hsk : f1_41 (fv 41 7) 0 = kdC f (f 47 (f1_41 (fv 41 6) 0)) := rdC_k hh_42
            refine hO (k_sum (by omega) (show (rdC (mx [fv 41 6, fv 41 7] (mx [43, fv 42 3, fv 42 5, fv 41 6, fv 41 7] f f1_17) f1_41)) from hs1) (show (f1_17 (fv 42 3) 0) ≤ ((f 47 (f1_41 (fv 41 6) 0))) from by omega) (fun f1_45 (hh_46 :  (rdC (mx [43, fv 42 3, fv 42 5, fv 41 6, fv 41 7] (mx [fv 41 6, fv 41 7] (mx [43, fv 42 3, fv 42 5, fv 41 6, fv 41 7] f f1_17) f1_41) f1_45))) (hh_47 : ∀ x K W, okx x → Rch (kdC f) (nxC f) (1, x :: K, ((f 47 (f1_41 (fv 41 6) 0))), (sl (f1_17 43) 0 (f1_17 (fv 42 3) 0)), W) (6, x :: K, ((f 47 (f1_45 (fv 41 6) 0))), (sl (f1_45 43) 0 (f1_45 (fv 42 3) 0)), W)) (hh_48 : f1_45 (fv 42 3) 0 - ((f 47 (f1_45 (fv 41 6) 0))) ≤ (f1_17 (fv 42 3) 0) - ((f 47 (f1_41 (fv 41 6) 0)))) (hh_49 : ((f 47 (f1_41 (fv 41 6) 0))) < ((f 47 (f1_45 (fv 41 6) 0)))) => ?_) (fun f1_50 (hh_51 : ∀ x K W, okx x → flt (kdC f) (nxC f) (1, x :: K, ((f 47 (f1_41 (fv 41 6) 0))), (sl (f1_17 43) 0 (f1_17 (fv 42 3) 0)), W) (f1_50 (fv 41 1) 0) (f1_50 (fv 41 2) 0)) => ?_))
            · have hd1 := hh_46
              have hd2 := hh_47
              have hd3 := hh_48
              have hd4 := hh_49
              have hdb : f 47 (f1_45 (fv 41 6) 0) ≤ f (fv 39 1) 0 := (rdC_b hh_46).2.1
              have hdk : f1_45 (fv 41 7) 0 = kdC f (f 47 (f1_45 (fv 41 6) 0)) := rdC_k hh_46
              refine ⟨fun h => absurd (show (1 : Int) = 0 from h) (by decide), fun _ => ?_⟩
              refine hO (k_emit (by omega) (show (rdC (mx [43, fv 42 3, fv 42 5, fv 41 6, fv 41 7] (mx [fv 41 6, fv 41 7] (mx [43, fv 42 3, fv 42 5, fv 41 6, fv 41 7] f f1_17) f1_41) f1_45)) from hd1) (show (f1_45 (fv 42 3) 0) < 400 from by omega) (show -9 ≤ (-15) → (-15) < 0 → bit (f1_45 (fv 42 5) 0) (-1 - (-15)) = true from fun h _ => absurd h (by decide)) (fun f1_52 (hh_53 :  (rdC (mx [43, fv 42 3] (mx [43, fv 42 3, fv 42 5, fv 41 6, fv 41 7] (mx [fv 41 6, fv 41 7] (mx [43, fv 42 3, fv 42 5, fv 41 6, fv 41 7] f f1_17) f1_41) f1_45) f1_52))) (hh_54 : (sl (f1_52 43) 0 (f1_52 (fv 42 3) 0)) = (sl (f1_45 43) 0 (f1_45 (fv 42 3) 0)) ++ [(-15)]) (hh_55 : f1_52 (fv 42 3) 0 = (f1_45 (fv 42 3) 0) + 1) => ?_))
              have he1 := hh_53
              have he2 := hh_54
              have he3 := hh_55
              refine ⟨show (1 : Int) = 0 ∨ 1 = 1 from by decide, ?_⟩
              have hk := k0 ((mx [43, fv 42 3] (mx [43, fv 42 3, fv 42 5, fv 41 6, fv 41 7] (mx [fv 41 6, fv 41 7] f1_17 f1_41) f1_45) f1_52)) he1 (fun K W hK => by rw [show sl ((mx [43, fv 42 3] (mx [43, fv 42 3, fv 42 5, fv 41 6, fv 41 7] (mx [fv 41 6, fv 41 7] f1_17 f1_41) f1_45) f1_52) 43) 0 ((mx [43, fv 42 3] (mx [43, fv 42 3, fv 42 5, fv 41 6, fv 41 7] (mx [fv 41 6, fv 41 7] f1_17 f1_41) f1_45) f1_52) (fv 42 3) 0) = _ from he2]; first | exact r_t (r_t (r_t (r_t (q_8c (by omega) (by omega)) (hc2 21 K W (Or.inl (by decide)))) (r_t (q_6_60 (by omega)) (by rw [← hs2]; exact r_0))) (hd2 6 K W (Or.inr (by decide)))) (q_6c (by decide) (by decide)) | exact r_t (r_t (r_t (r_t (q_8c (by omega) (by omega)) (hc2 21 K W (Or.inl (by decide)))) (r_t (q_6_61 (by omega)) (by rw [← hs2]; exact r_0))) (hd2 7 K W (Or.inr (by decide)))) (q_6c (by decide) (by decide)) | exact r_t (r_t (r_t (r_t (q_8c (by omega) (by omega)) (hc2 21 K W (Or.inl (by decide)))) (r_t (q_6_62 (by omega)) (by rw [← hs2]; exact r_0))) (hd2 8 K W (Or.inr (by decide)))) (q_6c (by decide) (by decide))) (by have q : (mx [43, fv 42 3] (mx [43, fv 42 3, fv 42 5, fv 41 6, fv 41 7] (mx [fv 41 6, fv 41 7] f1_17 f1_41) f1_45) f1_52) (fv 42 3) 0 = _ := he3; have q2 : f 47 ((mx [43, fv 42 3] (mx [43, fv 42 3, fv 42 5, fv 41 6, fv 41 7] (mx [fv 41 6, fv 41 7] f1_17 f1_41) f1_45) f1_52) (fv 41 6) 0) = f 47 (f1_45 (fv 41 6) 0) := rfl; omega) (by have q2 : f 47 ((mx [43, fv 42 3] (mx [43, fv 42 3, fv 42 5, fv 41 6, fv 41 7] (mx [fv 41 6, fv 41 7] f1_17 f1_41) f1_45) f1_52) (fv 41 6) 0) = f 47 (f1_45 (fv 41 6) 0) := rfl; omega)
              rw [show mx [43, fv 42 3, fv 42 5, fv 41 6, fv 41 7] f (mx [43, fv 42 3] (mx [43, fv 42 3, fv 42 5, fv 41 6, fv 41 7] (mx [fv 41 6, fv 41 7] f1_17 f1_41) f1_45) f1_52) = (mx [43, fv 42 3] (mx [43, fv 42 3, fv 42 5, fv 41 6, fv 41 7] (mx [fv 41 6, fv 41 7] (mx [43, fv 42 3, fv 42 5, fv 41 6, fv 41 7] f f1_17) f1_41) f1_45) f1_52) from ((mx_mx rfl (mx_mx rfl (mx_mx rfl rfl)))).symm] at hk
              exact hk
            · have hg1 := hh_51
              refine ⟨fun _ => ?_, fun h => absurd (show (0 : Int) = 0 from by decide) h⟩
              refine ⟨show (0 : Int) = 0 ∨ 0 = 1 from by decide, ?_⟩
              have hk := k1 ((mx [43, fv 42 3, fv 42 5, fv 41 1, fv 41 2, fv 41 6, fv 41 7] (mx [fv 41 6, fv 41 7] (mx [43, fv 42 3, fv 42 5, fv 41 6, fv 41 7] f f1_17) f1_41) f1_50)) (fun K W hK => by first | exact flt_r (r_t (r_t (q_8c (by omega) (by omega)) (hc2 21 K W (Or.inl (by decide)))) (r_t (q_6_60 (by omega)) (by rw [← hs2]; exact r_0))) (hg1 6 K W (Or.inr (by decide))) | exact flt_r (r_t (r_t (q_8c (by omega) (by omega)) (hc2 21 K W (Or.inl (by decide)))) (r_t (q_6_61 (by omega)) (by rw [← hs2]; exact r_0))) (hg1 7 K W (Or.inr (by decide))) | exact flt_r (r_t (r_t (q_8c (by omega) (by omega)) (hc2 21 K W (Or.inl (by decide)))) (r_t (q_6_62 (by omega)) (by rw [← hs2]; exact r_0))) (hg1 8 K W (Or.inr (by decide))))
              rw [show mx [43, fv 42 3, fv 42 5, fv 41 1, fv 41 2, fv 41 6, fv 41 7] f (mx [43, fv 42 3, fv 42 5, fv 41 1, fv 41 2, fv 41 6, fv 41 7] (mx [fv 41 6, fv 41 7] (mx [43, fv 42 3, fv 42 5, fv 41 6, fv 41 7] f f1_17) f1_41) f1_50) = (mx [43, fv 42 3, fv 42 5, fv 41 1, fv 41 2, fv 41 6, fv 41 7] (mx [fv 41 6, fv 41 7] (mx [43, fv 42 3, fv 42 5, fv 41 6, fv 41 7] f f1_17) f1_41) f1_50) from ((mx_mx rfl (mx_mx rfl (mx_mx rfl mx_rf)))).symm] at hk
              exact hk
          · refine ⟨fun (hh_56 : f1_17 (fv 41 7) 0 = 62) => ?_, fun (hh_56 : ¬ f1_17 (fv 41 7) 0 = 62) => ?_⟩
            · refine ⟨fun h => absurd h hh_24, fun _ => ?_⟩
              refine ⟨fun h => absurd h hh_40, fun _ => ?_⟩
              refine hO (k_step (by omega) (show (rdC (mx [43, fv 42 3, fv 42 5, fv 41 6, fv 41 7] f f1_17)) from hc1) (show ¬ (f1_17 (fv 41 7) 0) = 0 from by omega) (fun f1_57 (hh_58 :  (rdC (mx [fv 41 6, fv 41 7] (mx [43, fv 42 3, fv 42 5, fv 41 6, fv 41 7] f f1_17) f1_57))) (hh_59 : ((f 47 (f1_57 (fv 41 6) 0))) = (nxC f) ((f 47 (f1_17 (fv 41 6) 0)))) (hh_60 : ((f 47 (f1_17 (fv 41 6) 0))) < (nxC f) ((f 47 (f1_17 (fv 41 6) 0)))) => ?_))
              have hs1 := hh_58
              have hs2 := hh_59
              have hs3 := hh_60
              have hsb : f 47 (f1_57 (fv 41 6) 0) ≤ f (fv 39 1) 0 := (rdC_b hh_58).2.1
              have hsk : f1_57 (fv 41 7) 0 = kdC f (f 47 (f1_57 (fv 41 6) 0)) := rdC_k hh_58
              refine hO (k_sum (by omega) (show (rdC (mx [fv 41 6, fv 41 7] (mx [43, fv 42 3, fv 42 5, fv 41 6, fv 41 7] f f1_17) f1_57)) from hs1) (show (f1_17 (fv 42 3) 0) ≤ ((f 47 (f1_57 (fv 41 6) 0))) from by omega) (fun f1_61 (hh_62 :  (rdC (mx [43, fv 42 3, fv 42 5, fv 41 6, fv 41 7] (mx [fv 41 6, fv 41 7] (mx [43, fv 42 3, fv 42 5, fv 41 6, fv 41 7] f f1_17) f1_57) f1_61))) (hh_63 : ∀ x K W, okx x → Rch (kdC f) (nxC f) (1, x :: K, ((f 47 (f1_57 (fv 41 6) 0))), (sl (f1_17 43) 0 (f1_17 (fv 42 3) 0)), W) (6, x :: K, ((f 47 (f1_61 (fv 41 6) 0))), (sl (f1_61 43) 0 (f1_61 (fv 42 3) 0)), W)) (hh_64 : f1_61 (fv 42 3) 0 - ((f 47 (f1_61 (fv 41 6) 0))) ≤ (f1_17 (fv 42 3) 0) - ((f 47 (f1_57 (fv 41 6) 0)))) (hh_65 : ((f 47 (f1_57 (fv 41 6) 0))) < ((f 47 (f1_61 (fv 41 6) 0)))) => ?_) (fun f1_66 (hh_67 : ∀ x K W, okx x → flt (kdC f) (nxC f) (1, x :: K, ((f 47 (f1_57 (fv 41 6) 0))), (sl (f1_17 43) 0 (f1_17 (fv 42 3) 0)), W) (f1_66 (fv 41 1) 0) (f1_66 (fv 41 2) 0)) => ?_))
              · have hd1 := hh_62
                have hd2 := hh_63
                have hd3 := hh_64
                have hd4 := hh_65
                have hdb : f 47 (f1_61 (fv 41 6) 0) ≤ f (fv 39 1) 0 := (rdC_b hh_62).2.1
                have hdk : f1_61 (fv 41 7) 0 = kdC f (f 47 (f1_61 (fv 41 6) 0)) := rdC_k hh_62
                refine ⟨fun h => absurd (show (1 : Int) = 0 from h) (by decide), fun _ => ?_⟩
                refine hO (k_emit (by omega) (show (rdC (mx [43, fv 42 3, fv 42 5, fv 41 6, fv 41 7] (mx [fv 41 6, fv 41 7] (mx [43, fv 42 3, fv 42 5, fv 41 6, fv 41 7] f f1_17) f1_57) f1_61)) from hd1) (show (f1_61 (fv 42 3) 0) < 400 from by omega) (show -9 ≤ (-16) → (-16) < 0 → bit (f1_61 (fv 42 5) 0) (-1 - (-16)) = true from fun h _ => absurd h (by decide)) (fun f1_68 (hh_69 :  (rdC (mx [43, fv 42 3] (mx [43, fv 42 3, fv 42 5, fv 41 6, fv 41 7] (mx [fv 41 6, fv 41 7] (mx [43, fv 42 3, fv 42 5, fv 41 6, fv 41 7] f f1_17) f1_57) f1_61) f1_68))) (hh_70 : (sl (f1_68 43) 0 (f1_68 (fv 42 3) 0)) = (sl (f1_61 43) 0 (f1_61 (fv 42 3) 0)) ++ [(-16)]) (hh_71 : f1_68 (fv 42 3) 0 = (f1_61 (fv 42 3) 0) + 1) => ?_))
                have he1 := hh_69
                have he2 := hh_70
                have he3 := hh_71
                refine ⟨show (1 : Int) = 0 ∨ 1 = 1 from by decide, ?_⟩
                have hk := k0 ((mx [43, fv 42 3] (mx [43, fv 42 3, fv 42 5, fv 41 6, fv 41 7] (mx [fv 41 6, fv 41 7] f1_17 f1_57) f1_61) f1_68)) he1 (fun K W hK => by rw [show sl ((mx [43, fv 42 3] (mx [43, fv 42 3, fv 42 5, fv 41 6, fv 41 7] (mx [fv 41 6, fv 41 7] f1_17 f1_57) f1_61) f1_68) 43) 0 ((mx [43, fv 42 3] (mx [43, fv 42 3, fv 42 5, fv 41 6, fv 41 7] (mx [fv 41 6, fv 41 7] f1_17 f1_57) f1_61) f1_68) (fv 42 3) 0) = _ from he2]; first | exact r_t (r_t (r_t (r_t (q_8c (by omega) (by omega)) (hc2 21 K W (Or.inl (by decide)))) (r_t (q_6_60 (by omega)) (by rw [← hs2]; exact r_0))) (hd2 6 K W (Or.inr (by decide)))) (q_6c (by decide) (by decide)) | exact r_t (r_t (r_t (r_t (q_8c (by omega) (by omega)) (hc2 21 K W (Or.inl (by decide)))) (r_t (q_6_61 (by omega)) (by rw [← hs2]; exact r_0))) (hd2 7 K W (Or.inr (by decide)))) (q_6c (by decide) (by decide)) | exact r_t (r_t (r_t (r_t (q_8c (by omega) (by omega)) (hc2 21 K W (Or.inl (by decide)))) (r_t (q_6_62 (by omega)) (by rw [← hs2]; exact r_0))) (hd2 8 K W (Or.inr (by decide)))) (q_6c (by decide) (by decide))) (by have q : (mx [43, fv 42 3] (mx [43, fv 42 3, fv 42 5, fv 41 6, fv 41 7] (mx [fv 41 6, fv 41 7] f1_17 f1_57) f1_61) f1_68) (fv 42 3) 0 = _ := he3; have q2 : f 47 ((mx [43, fv 42 3] (mx [43, fv 42 3, fv 42 5, fv 41 6, fv 41 7] (mx [fv 41 6, fv 41 7] f1_17 f1_57) f1_61) f1_68) (fv 41 6) 0) = f 47 (f1_61 (fv 41 6) 0) := rfl; omega) (by have q2 : f 47 ((mx [43, fv 42 3] (mx [43, fv 42 3, fv 42 5, fv 41 6, fv 41 7] (mx [fv 41 6, fv 41 7] f1_17 f1_57) f1_61) f1_68) (fv 41 6) 0) = f 47 (f1_61 (fv 41 6) 0) := rfl; omega)
                rw [show mx [43, fv 42 3, fv 42 5, fv 41 6, fv 41 7] f (mx [43, fv 42 3] (mx [43, fv 42 3, fv 42 5, fv 41 6, fv 41 7] (mx [fv 41 6, fv 41 7] f1_17 f1_57) f1_61) f1_68) = (mx [43, fv 42 3] (mx [43, fv 42 3, fv 42 5, fv 41 6, fv 41 7] (mx [fv 41 6, fv 41 7] (mx [43, fv 42 3, fv 42 5, fv 41 6, fv 41 7] f f1_17) f1_57) f1_61) f1_68) from ((mx_mx rfl (mx_mx rfl (mx_mx rfl rfl)))).symm] at hk
                exact hk
              · have hg1 := hh_67
                refine ⟨fun _ => ?_, fun h => absurd (show (0 : Int) = 0 from by decide) h⟩
                refine ⟨show (0 : Int) = 0 ∨ 0 = 1 from by decide, ?_⟩
                have hk := k1 ((mx [43, fv 42 3, fv 42 5, fv 41 1, fv 41 2, fv 41 6, fv 41 7] (mx [fv 41 6, fv 41 7] (mx [43, fv 42 3, fv 42 5, fv 41 6, fv 41 7] f f1_17) f1_57) f1_66)) (fun K W hK => by first | exact flt_r (r_t (r_t (q_8c (by omega) (by omega)) (hc2 21 K W (Or.inl (by decide)))) (r_t (q_6_60 (by omega)) (by rw [← hs2]; exact r_0))) (hg1 6 K W (Or.inr (by decide))) | exact flt_r (r_t (r_t (q_8c (by omega) (by omega)) (hc2 21 K W (Or.inl (by decide)))) (r_t (q_6_61 (by omega)) (by rw [← hs2]; exact r_0))) (hg1 7 K W (Or.inr (by decide))) | exact flt_r (r_t (r_t (q_8c (by omega) (by omega)) (hc2 21 K W (Or.inl (by decide)))) (r_t (q_6_62 (by omega)) (by rw [← hs2]; exact r_0))) (hg1 8 K W (Or.inr (by decide))))
                rw [show mx [43, fv 42 3, fv 42 5, fv 41 1, fv 41 2, fv 41 6, fv 41 7] f (mx [43, fv 42 3, fv 42 5, fv 41 1, fv 41 2, fv 41 6, fv 41 7] (mx [fv 41 6, fv 41 7] (mx [43, fv 42 3, fv 42 5, fv 41 6, fv 41 7] f f1_17) f1_57) f1_66) = (mx [43, fv 42 3, fv 42 5, fv 41 1, fv 41 2, fv 41 6, fv 41 7] (mx [fv 41 6, fv 41 7] (mx [43, fv 42 3, fv 42 5, fv 41 6, fv 41 7] f f1_17) f1_57) f1_66) from ((mx_mx rfl (mx_mx rfl (mx_mx rfl mx_rf)))).symm] at hk
                exact hk
            · refine hO (k_fail (by omega) (show (rdC (mx [43, fv 42 3, fv 42 5, fv 41 6, fv 41 7] f f1_17)) from hc1) ?_)
              refine ⟨show (0 : Int) = 0 ∨ 0 = 1 from by decide, ?_⟩
              have hk := k1 ((wv (wv (mx [43, fv 42 3, fv 42 5, fv 41 6, fv 41 7] f f1_17) (fv 41 1) 0 1) (fv 41 2) 0 ((f 47 (f1_17 (fv 41 6) 0))))) (fun K W hK => flt_r (r_t (q_8c (by omega) (by omega)) (hc2 21 K W (Or.inl (by decide)))) (flt_0 (q_6f (by omega) (by omega) (by omega))))
              rw [show mx [43, fv 42 3, fv 42 5, fv 41 1, fv 41 2, fv 41 6, fv 41 7] f (wv (wv (mx [43, fv 42 3, fv 42 5, fv 41 6, fv 41 7] f f1_17) (fv 41 1) 0 1) (fv 41 2) 0 ((f 47 (f1_17 (fv 41 6) 0)))) = (wv (wv (mx [43, fv 42 3, fv 42 5, fv 41 6, fv 41 7] f f1_17) (fv 41 1) 0 1) (fv 41 2) 0 ((f 47 (f1_17 (fv 41 6) 0)))) from ((mx_wv rfl (mx_wv rfl (mx_mx rfl mx_rf)))).symm] at hk
              exact hk
      · have hf1 := hh_23
        refine ⟨fun _ => ?_, fun h => absurd (show (0 : Int) = 0 from by decide) h⟩
        refine ⟨show (0 : Int) = 0 ∨ 0 = 1 from by decide, ?_⟩
        have hk := k1 (f1_22) (fun K W hK => flt_r (q_8c (by omega) (by omega)) (hf1 21 K W (Or.inl (by decide))))
        exact hk
set_option maxRecDepth 100000 in
set_option maxHeartbeats 4000000 in
theorem k_choiceS {op9 : Int} {m9 : Nat} (IHc : ∀ {d : Nat} {f : iF} {g : iG} {Q : Option iv → iF → iG → Prop} {op9 : Int} (hd : 3 * m9 + 4 ≤ d) (hrd : (rdC f)) (hsz : (f (fv 42 3) 0) ≤ ((f 47 (f (fv 41 6) 0)))) (hop : op9 = 8 - (m9 : Int) ∧ 0 ≤ op9) (k0 : ∀ f1 : iF, ( (rdC (mx [43, fv 42 3, fv 42 5, fv 41 6, fv 41 7] f f1))) → (∀ K W, opn K = op9 → Rch (kdC f) (nxC f) (8, K, ((f 47 (f (fv 41 6) 0))), (sl (f 43) 0 (f (fv 42 3) 0)), W) (9, K, ((f 47 (f1 (fv 41 6) 0))), (sl (f1 43) 0 (f1 (fv 42 3) 0)), W)) → (f1 (fv 42 3) 0 - ((f 47 (f1 (fv 41 6) 0))) ≤ (f (fv 42 3) 0) - ((f 47 (f (fv 41 6) 0)))) → (((f 47 (f (fv 41 6) 0))) < ((f 47 (f1 (fv 41 6) 0)))) → Q (some (iI 1)) (mx [43, fv 42 3, fv 42 5, fv 41 6, fv 41 7] f f1) g) (k1 : ∀ f1 : iF, (∀ K W, opn K = op9 → flt (kdC f) (nxC f) (8, K, ((f 47 (f (fv 41 6) 0))), (sl (f 43) 0 (f (fv 42 3) 0)), W) (f1 (fv 41 1) 0) (f1 (fv 41 2) 0)) → Q (some (iI 0)) (mx [43, fv 42 3, fv 42 5, fv 41 1, fv 41 2, fv 41 6, fv 41 7] f f1) g), wq d 133 [iR 41, iI op9] f g Q) (hd : 3 * m9 + 5 ≤ d) (hrd : (rdC f)) (hsz : (f (fv 42 3) 0) ≤ ((f 47 (f (fv 41 6) 0)))) (hop : op9 = 8 - (m9 : Int) ∧ 0 ≤ op9) (k0 : ∀ f1 : iF, ( (rdC (mx [43, fv 42 3, fv 42 5, fv 41 6, fv 41 7] f f1))) → (∀ x K W, (x = 22 ∨ x = 12) → opn (x :: K) = op9 → Rch (kdC f) (nxC f) (8, x :: K, ((f 47 (f (fv 41 6) 0))), (sl (f 43) 0 (f (fv 42 3) 0)), W) (14, x :: K, ((f 47 (f1 (fv 41 6) 0))), (sl (f1 43) 0 (f1 (fv 42 3) 0)), W)) → (f1 (fv 42 3) 0 - ((f 47 (f1 (fv 41 6) 0))) ≤ (f (fv 42 3) 0) - ((f 47 (f (fv 41 6) 0)))) → (((f 47 (f (fv 41 6) 0))) < ((f 47 (f1 (fv 41 6) 0)))) → Q (some (iI 1)) (mx [43, fv 42 3, fv 42 5, fv 41 6, fv 41 7] f f1) g) (k1 : ∀ f1 : iF, (∀ x K W, (x = 22 ∨ x = 12) → opn (x :: K) = op9 → flt (kdC f) (nxC f) (8, x :: K, ((f 47 (f (fv 41 6) 0))), (sl (f 43) 0 (f (fv 42 3) 0)), W) (f1 (fv 41 1) 0) (f1 (fv 41 2) 0)) → Q (some (iI 0)) (mx [43, fv 42 3, fv 42 5, fv 41 1, fv 41 2, fv 41 6, fv 41 7] f f1) g) : wq d 132 [iR 41, iI op9] f g Q := by
  obtain ⟨d, rfl⟩ : ∃ e, d = e + 1 := ⟨d - 1, by omega⟩
  refine i_meth [(4, 4), (15, 5)] (fun n j lv st f' g' => (j = 4 ∧ ∃ (jd9 : Int) (nn9 : Int) (f1 : iF), lv = [some (iR 41), some (iI op9), some (iI jd9), some (iI nn9)] ∧ st = [] ∧ f' = (mx [43, fv 42 3, fv 42 5, fv 41 6, fv 41 7] f f1) ∧ g = g' ∧ (rdC (mx [43, fv 42 3, fv 42 5, fv 41 6, fv 41 7] f f1)) ∧ (jd9 = 0 ∨ jd9 = 1) ∧ (∀ x K W, (x = 22 ∨ x = 12) → opn (x :: K) = op9 → Rch (kdC f) (nxC f) (8, x :: K, f 47 (f (fv 41 6) 0), sl (f 43) 0 (f (fv 42 3) 0), W) (8, jo jd9 (x :: K), f 47 (f1 (fv 41 6) 0), sl (f1 43) 0 (f1 (fv 42 3) 0), W)) ∧ ((jd9 = 0 → f1 (fv 42 3) 0 - (f 47 (f1 (fv 41 6) 0)) ≤ f (fv 42 3) 0 - (f 47 (f (fv 41 6) 0))) ∧ (¬ jd9 = 0 → f1 (fv 42 3) 0 + 1 - (f 47 (f1 (fv 41 6) 0)) ≤ f (fv 42 3) 0 - (f 47 (f (fv 41 6) 0)))) ∧ (0 ≤ nn9 ∧ 2 * nn9 + 0 ≤ f 47 (f1 (fv 41 6) 0) - f 47 (f (fv 41 6) 0)) ∧ (n : Int) = 2 * (401 - (f 47 (f1 (fv 41 6) 0))) + 1) ∨ (j = 15 ∧ ∃ (jd9 : Int) (nn9 : Int) (mm9 : Int) (f1 : iF), lv = [some (iR 41), some (iI op9), some (iI jd9), some (iI nn9), some (iI mm9)] ∧ st = [] ∧ f' = (mx [43, fv 42 3, fv 42 5, fv 41 6, fv 41 7] f f1) ∧ g = g' ∧ (rdC (mx [43, fv 42 3, fv 42 5, fv 41 6, fv 41 7] f f1)) ∧ (jd9 = 0 ∨ jd9 = 1) ∧ (∀ x K W, (x = 22 ∨ x = 12) → opn (x :: K) = op9 → Rch (kdC f) (nxC f) (8, x :: K, f 47 (f (fv 41 6) 0), sl (f 43) 0 (f (fv 42 3) 0), W) (10, jo jd9 (x :: K), f 47 (f1 (fv 41 6) 0), sl (f1 43) 0 (f1 (fv 42 3) 0), W)) ∧ ((jd9 = 0 → f1 (fv 42 3) 0 - (f 47 (f1 (fv 41 6) 0)) ≤ f (fv 42 3) 0 - (f 47 (f (fv 41 6) 0))) ∧ (¬ jd9 = 0 → f1 (fv 42 3) 0 + 1 - (f 47 (f1 (fv 41 6) 0)) ≤ f (fv 42 3) 0 - (f 47 (f (fv 41 6) 0)))) ∧ (0 ≤ nn9 ∧ 2 * nn9 + 2 * mm9 + 1 ≤ f 47 (f1 (fv 41 6) 0) - f 47 (f (fv 41 6) 0)) ∧ (0 ≤ mm9) ∧ (n : Int) = 2 * (401 - (f 47 (f1 (fv 41 6) 0))))) 810 (by omega) rfl rfl (fun n j lv st f' g' hn hI O J hO hF hB => ?_) (fun hvs hin O J hO hF => ?_)
  · rcases hI with hI | hI
    · obtain ⟨rfl, jd9, nn9, f1, rfl, rfl, rfl, rfl, hrd1, hj, hR, hz, hn, hm⟩ := hI
      have hb0 := rdC_b hrd
      have hb1 : 0 ≤ f 47 (f1 (fv 41 6) 0) ∧ f 47 (f1 (fv 41 6) 0) ≤ f (fv 39 1) 0 ∧ f (fv 39 1) 0 ≤ 400 ∧ 0 ≤ f1 (fv 41 6) 0 ∧ f1 (fv 41 6) 0 ≤ 400 ∧ 0 ≤ f1 (fv 42 3) 0 := rdC_b hrd1
      have hkd : f1 (fv 41 7) 0 = kdC f (f 47 (f1 (fv 41 6) 0)) := rdC_k hrd1
      refine ⟨fun (hh_1 : nn9 < 400) => ?_, fun (hh_1 : ¬ nn9 < 400) => ?_⟩
      · refine hO (IHc (by omega) (show (rdC (mx [43, fv 42 3, fv 42 5, fv 41 6, fv 41 7] f f1)) from hrd1) (show (f1 (fv 42 3) 0) ≤ ((f 47 (f1 (fv 41 6) 0))) from by omega) (show op9 = 8 - (m9 : Int) ∧ 0 ≤ op9 from hop) (fun f1_2 (hh_3 :  (rdC (mx [43, fv 42 3, fv 42 5, fv 41 6, fv 41 7] (mx [43, fv 42 3, fv 42 5, fv 41 6, fv 41 7] f f1) f1_2))) (hh_4 : ∀ K W, opn K = op9 → Rch (kdC f) (nxC f) (8, K, ((f 47 (f1 (fv 41 6) 0))), (sl (f1 43) 0 (f1 (fv 42 3) 0)), W) (9, K, ((f 47 (f1_2 (fv 41 6) 0))), (sl (f1_2 43) 0 (f1_2 (fv 42 3) 0)), W)) (hh_5 : f1_2 (fv 42 3) 0 - ((f 47 (f1_2 (fv 41 6) 0))) ≤ (f1 (fv 42 3) 0) - ((f 47 (f1 (fv 41 6) 0)))) (hh_6 : ((f 47 (f1 (fv 41 6) 0))) < ((f 47 (f1_2 (fv 41 6) 0)))) => ?_) (fun f1_7 (hh_8 : ∀ K W, opn K = op9 → flt (kdC f) (nxC f) (8, K, ((f 47 (f1 (fv 41 6) 0))), (sl (f1 43) 0 (f1 (fv 42 3) 0)), W) (f1_7 (fv 41 1) 0) (f1_7 (fv 41 2) 0)) => ?_))
        · have hc1 := hh_3
          have hc2 := hh_4
          have hc3 := hh_5
          have hc4 := hh_6
          have hcb : f 47 (f1_2 (fv 41 6) 0) ≤ f (fv 39 1) 0 := (rdC_b hh_3).2.1
          have hck : f1_2 (fv 41 7) 0 = kdC f (f 47 (f1_2 (fv 41 6) 0)) := rdC_k hh_3
          refine ⟨fun h => absurd (show (1 : Int) = 0 from h) (by decide), fun _ => ?_⟩
          have q2 : f 47 ((mx [43, fv 42 3, fv 42 5, fv 41 6, fv 41 7] f1 f1_2) (fv 41 6) 0) = f 47 (f1_2 (fv 41 6) 0) := rfl
          have q1 : (mx [43, fv 42 3, fv 42 5, fv 41 6, fv 41 7] f1 f1_2) (fv 42 3) 0 = f1_2 (fv 42 3) 0 := rfl
          refine hF (2 * (401 - (f 47 ((mx [43, fv 42 3, fv 42 5, fv 41 6, fv 41 7] f1 f1_2) (fv 41 6) 0))) : Int).toNat ?_ (Or.inr (⟨rfl, jd9, nn9, 0, (mx [43, fv 42 3, fv 42 5, fv 41 6, fv 41 7] f1 f1_2), rfl, rfl, (mx_mx rfl rfl), rfl, ?_, ?_, ?_, ?_, ?_, ?_, ?_⟩))
          · omega
          · exact hc1
          · omega
          · intro x K W hx hK
            exact r_t (r_t (hR x K W hx hK) (hc2 (jo jd9 (x :: K)) W (by rw [jo_o]; exact hK))) (jc_9 hx)
          · refine ⟨fun h => ?_, fun h => ?_⟩ <;> omega
          · omega
          · omega
          · omega
        · have hf1 := hh_8
          refine ⟨fun _ => ?_, fun h => absurd (show (0 : Int) = 0 from by decide) h⟩
          refine ⟨show (0 : Int) = 0 ∨ 0 = 1 from by decide, ?_⟩
          have hk := k1 ((mx [43, fv 42 3, fv 42 5, fv 41 1, fv 41 2, fv 41 6, fv 41 7] (mx [43, fv 42 3, fv 42 5, fv 41 6, fv 41 7] f f1) f1_7)) (fun x K W hx hK => flt_r (hR x K W hx hK) (hf1 (jo jd9 (x :: K)) W (by rw [jo_o]; exact hK)))
          rw [show mx [43, fv 42 3, fv 42 5, fv 41 1, fv 41 2, fv 41 6, fv 41 7] f (mx [43, fv 42 3, fv 42 5, fv 41 1, fv 41 2, fv 41 6, fv 41 7] (mx [43, fv 42 3, fv 42 5, fv 41 6, fv 41 7] f f1) f1_7) = (mx [43, fv 42 3, fv 42 5, fv 41 1, fv 41 2, fv 41 6, fv 41 7] (mx [43, fv 42 3, fv 42 5, fv 41 6, fv 41 7] f f1) f1_7) from ((mx_mx rfl (mx_mx rfl mx_rf))).symm] at hk
          exact hk
      · refine ⟨show (1 : Int) = 0 ∨ 1 = 1 from by decide, ?_⟩
        exfalso; omega
    · obtain ⟨rfl, jd9, nn9, mm9, f1, rfl, rfl, rfl, rfl, hrd1, hj, hR, hz, hn, hm, hm⟩ := hI
      have hb0 := rdC_b hrd
      have hb1 : 0 ≤ f 47 (f1 (fv 41 6) 0) ∧ f 47 (f1 (fv 41 6) 0) ≤ f (fv 39 1) 0 ∧ f (fv 39 1) 0 ≤ 400 ∧ 0 ≤ f1 (fv 41 6) 0 ∧ f1 (fv 41 6) 0 ≤ 400 ∧ 0 ≤ f1 (fv 42 3) 0 := rdC_b hrd1
      have hkd : f1 (fv 41 7) 0 = kdC f (f 47 (f1 (fv 41 6) 0)) := rdC_k hrd1
      refine ⟨fun (hh_9 : mm9 < 400) => ?_, fun (hh_9 : ¬ mm9 < 400) => ?_⟩
      · refine ⟨fun (hh_10 : f1 (fv 41 7) 0 = 6) => ?_, fun (hh_10 : ¬ f1 (fv 41 7) 0 = 6) => ?_⟩
        · refine hO (k_step (by omega) (show (rdC (mx [43, fv 42 3, fv 42 5, fv 41 6, fv 41 7] f f1)) from hrd1) (show ¬ (f1 (fv 41 7) 0) = 0 from by omega) (fun f1_11 (hh_12 :  (rdC (mx [fv 41 6, fv 41 7] (mx [43, fv 42 3, fv 42 5, fv 41 6, fv 41 7] f f1) f1_11))) (hh_13 : ((f 47 (f1_11 (fv 41 6) 0))) = (nxC f) ((f 47 (f1 (fv 41 6) 0)))) (hh_14 : ((f 47 (f1 (fv 41 6) 0))) < (nxC f) ((f 47 (f1 (fv 41 6) 0)))) => ?_))
          have hs1 := hh_12
          have hs2 := hh_13
          have hs3 := hh_14
          have hsb : f 47 (f1_11 (fv 41 6) 0) ≤ f (fv 39 1) 0 := (rdC_b hh_12).2.1
          have hsk : f1_11 (fv 41 7) 0 = kdC f (f 47 (f1_11 (fv 41 6) 0)) := rdC_k hh_12
          refine hO (IHc (by omega) (show (rdC (mx [fv 41 6, fv 41 7] (mx [43, fv 42 3, fv 42 5, fv 41 6, fv 41 7] f f1) f1_11)) from hs1) (show (f1 (fv 42 3) 0) ≤ ((f 47 (f1_11 (fv 41 6) 0))) from by omega) (show op9 = 8 - (m9 : Int) ∧ 0 ≤ op9 from hop) (fun f1_15 (hh_16 :  (rdC (mx [43, fv 42 3, fv 42 5, fv 41 6, fv 41 7] (mx [fv 41 6, fv 41 7] (mx [43, fv 42 3, fv 42 5, fv 41 6, fv 41 7] f f1) f1_11) f1_15))) (hh_17 : ∀ K W, opn K = op9 → Rch (kdC f) (nxC f) (8, K, ((f 47 (f1_11 (fv 41 6) 0))), (sl (f1 43) 0 (f1 (fv 42 3) 0)), W) (9, K, ((f 47 (f1_15 (fv 41 6) 0))), (sl (f1_15 43) 0 (f1_15 (fv 42 3) 0)), W)) (hh_18 : f1_15 (fv 42 3) 0 - ((f 47 (f1_15 (fv 41 6) 0))) ≤ (f1 (fv 42 3) 0) - ((f 47 (f1_11 (fv 41 6) 0)))) (hh_19 : ((f 47 (f1_11 (fv 41 6) 0))) < ((f 47 (f1_15 (fv 41 6) 0)))) => ?_) (fun f1_20 (hh_21 : ∀ K W, opn K = op9 → flt (kdC f) (nxC f) (8, K, ((f 47 (f1_11 (fv 41 6) 0))), (sl (f1 43) 0 (f1 (fv 42 3) 0)), W) (f1_20 (fv 41 1) 0) (f1_20 (fv 41 2) 0)) => ?_))
          · have hc1 := hh_16
            have hc2 := hh_17
            have hc3 := hh_18
            have hc4 := hh_19
            have hcb : f 47 (f1_15 (fv 41 6) 0) ≤ f (fv 39 1) 0 := (rdC_b hh_16).2.1
            have hck : f1_15 (fv 41 7) 0 = kdC f (f 47 (f1_15 (fv 41 6) 0)) := rdC_k hh_16
            refine ⟨fun h => absurd (show (1 : Int) = 0 from h) (by decide), fun _ => ?_⟩
            refine hO (k_emit (by omega) (show (rdC (mx [43, fv 42 3, fv 42 5, fv 41 6, fv 41 7] (mx [fv 41 6, fv 41 7] (mx [43, fv 42 3, fv 42 5, fv 41 6, fv 41 7] f f1) f1_11) f1_15)) from hc1) (show (f1_15 (fv 42 3) 0) < 400 from by omega) (show -9 ≤ (-17) → (-17) < 0 → bit (f1_15 (fv 42 5) 0) (-1 - (-17)) = true from fun h _ => absurd h (by decide)) (fun f1_22 (hh_23 :  (rdC (mx [43, fv 42 3] (mx [43, fv 42 3, fv 42 5, fv 41 6, fv 41 7] (mx [fv 41 6, fv 41 7] (mx [43, fv 42 3, fv 42 5, fv 41 6, fv 41 7] f f1) f1_11) f1_15) f1_22))) (hh_24 : (sl (f1_22 43) 0 (f1_22 (fv 42 3) 0)) = (sl (f1_15 43) 0 (f1_15 (fv 42 3) 0)) ++ [(-17)]) (hh_25 : f1_22 (fv 42 3) 0 = (f1_15 (fv 42 3) 0) + 1) => ?_))
            have he1 := hh_23
            have he2 := hh_24
            have he3 := hh_25
            refine ⟨show inr (mm9 + 1) from by constructor <;> omega, ?_⟩
            have q2 : f 47 ((mx [43, fv 42 3] (mx [43, fv 42 3, fv 42 5, fv 41 6, fv 41 7] (mx [fv 41 6, fv 41 7] f1 f1_11) f1_15) f1_22) (fv 41 6) 0) = f 47 (f1_15 (fv 41 6) 0) := rfl
            have q1 : (mx [43, fv 42 3] (mx [43, fv 42 3, fv 42 5, fv 41 6, fv 41 7] (mx [fv 41 6, fv 41 7] f1 f1_11) f1_15) f1_22) (fv 42 3) 0 = _ := he3
            refine hB (2 * (401 - (f 47 ((mx [43, fv 42 3] (mx [43, fv 42 3, fv 42 5, fv 41 6, fv 41 7] (mx [fv 41 6, fv 41 7] f1 f1_11) f1_15) f1_22) (fv 41 6) 0))) : Int).toNat ?_ (Or.inr (⟨rfl, jd9, nn9, (mm9 + 1), (mx [43, fv 42 3] (mx [43, fv 42 3, fv 42 5, fv 41 6, fv 41 7] (mx [fv 41 6, fv 41 7] f1 f1_11) f1_15) f1_22), rfl, rfl, (mx_mx rfl (mx_mx rfl (mx_mx rfl rfl))), rfl, ?_, ?_, ?_, ?_, ?_, ?_, ?_⟩))
            · omega
            · exact he1
            · omega
            · intro x K W hx hK
              rw [show sl ((mx [43, fv 42 3] (mx [43, fv 42 3, fv 42 5, fv 41 6, fv 41 7] (mx [fv 41 6, fv 41 7] f1 f1_11) f1_15) f1_22) 43) 0 ((mx [43, fv 42 3] (mx [43, fv 42 3, fv 42 5, fv 41 6, fv 41 7] (mx [fv 41 6, fv 41 7] f1 f1_11) f1_15) f1_22) (fv 42 3) 0) = _ from he2]
              exact r_t (r_t (hR x K W hx hK) (jc_a hx (by omega) hs2)) (r_t (hc2 (10 :: jo jd9 (x :: K)) W (by rw [opn10, jo_o]; exact hK)) jc_10)
            · refine ⟨fun h => ?_, fun h => ?_⟩ <;> omega
            · omega
            · omega
            · omega
          · have hf1 := hh_21
            refine ⟨fun _ => ?_, fun h => absurd (show (0 : Int) = 0 from by decide) h⟩
            refine ⟨show (0 : Int) = 0 ∨ 0 = 1 from by decide, ?_⟩
            have hk := k1 ((mx [43, fv 42 3, fv 42 5, fv 41 1, fv 41 2, fv 41 6, fv 41 7] (mx [fv 41 6, fv 41 7] (mx [43, fv 42 3, fv 42 5, fv 41 6, fv 41 7] f f1) f1_11) f1_20)) (fun x K W hx hK => flt_r (r_t (hR x K W hx hK) (jc_a hx (by omega) hs2)) (hf1 (10 :: jo jd9 (x :: K)) W (by rw [opn10, jo_o]; exact hK)))
            rw [show mx [43, fv 42 3, fv 42 5, fv 41 1, fv 41 2, fv 41 6, fv 41 7] f (mx [43, fv 42 3, fv 42 5, fv 41 1, fv 41 2, fv 41 6, fv 41 7] (mx [fv 41 6, fv 41 7] (mx [43, fv 42 3, fv 42 5, fv 41 6, fv 41 7] f f1) f1_11) f1_20) = (mx [43, fv 42 3, fv 42 5, fv 41 1, fv 41 2, fv 41 6, fv 41 7] (mx [fv 41 6, fv 41 7] (mx [43, fv 42 3, fv 42 5, fv 41 6, fv 41 7] f f1) f1_11) f1_20) from ((mx_mx rfl (mx_mx rfl (mx_mx rfl mx_rf)))).symm] at hk
            exact hk
        · refine ⟨fun (hh_26 : jd9 = 0) => ?_, fun (hh_26 : ¬ jd9 = 0) => ?_⟩
          · refine ⟨fun (hh_27 : f1 (fv 41 7) 0 = 5) => ?_, fun (hh_27 : ¬ f1 (fv 41 7) 0 = 5) => ?_⟩
            · refine hO (k_step (by omega) (show (rdC (mx [43, fv 42 3, fv 42 5, fv 41 6, fv 41 7] f f1)) from by first | exact he1 | exact hrd1) (show ¬ (f1 (fv 41 7) 0) = 0 from by omega) (fun f1_28 (hh_29 :  (rdC (mx [fv 41 6, fv 41 7] (mx [43, fv 42 3, fv 42 5, fv 41 6, fv 41 7] f f1) f1_28))) (hh_30 : ((f 47 (f1_28 (fv 41 6) 0))) = (nxC f) ((f 47 (f1 (fv 41 6) 0)))) (hh_31 : ((f 47 (f1 (fv 41 6) 0))) < (nxC f) ((f 47 (f1 (fv 41 6) 0)))) => ?_))
              have ht1 := hh_29
              have ht2 := hh_30
              have ht3 := hh_31
              have htb : f 47 (f1_28 (fv 41 6) 0) ≤ f (fv 39 1) 0 := (rdC_b hh_29).2.1
              have htk : f1_28 (fv 41 7) 0 = kdC f (f 47 (f1_28 (fv 41 6) 0)) := rdC_k hh_29
              refine ⟨show inr (nn9 + 1) from by constructor <;> omega, ?_⟩
              have q2 : f 47 ((mx [fv 41 6, fv 41 7] f1 f1_28) (fv 41 6) 0) = _ := ht2
              have q1 : (¬ jd9 = 0 ∧ (mx [fv 41 6, fv 41 7] f1 f1_28) (fv 42 3) 0 = f1 (fv 42 3) 0 + 1) ∨ (jd9 = 0 ∧ (mx [fv 41 6, fv 41 7] f1 f1_28) (fv 42 3) 0 = f1 (fv 42 3) 0) := by first | exact Or.inl ⟨by omega, he3⟩ | exact Or.inr ⟨by omega, rfl⟩
              refine hB (2 * (401 - (f 47 ((mx [fv 41 6, fv 41 7] f1 f1_28) (fv 41 6) 0))) + 1 : Int).toNat ?_ (Or.inl ⟨rfl, 1, (nn9 + 1), (mx [fv 41 6, fv 41 7] f1 f1_28), rfl, rfl, (mx_mx rfl rfl), rfl, ?_, ?_, ?_, ?_, ?_, ?_⟩)
              · omega
              · exact ht1
              · omega
              · intro x K W hx hK
                rw [show f 47 ((mx [fv 41 6, fv 41 7] f1 f1_28) (fv 41 6) 0) = _ from ht2]
                first
                | (rw [show sl ((mx [fv 41 6, fv 41 7] f1 f1_28) 43) 0 ((mx [fv 41 6, fv 41 7] f1 f1_28) (fv 42 3) 0) = _ from he2]; exact r_t (r_t (hR x K W hx hK) (jc_e hx (by omega))) (r_t (jc_1 hx (by omega)) (q_13o (by omega))))
                | exact r_t (r_t (hR x K W hx hK) (jc_e hx (by omega))) (r_t (by rw [show jd9 = 0 by omega]; exact jc_0 hx) (q_13o (by omega)))
              · refine ⟨fun h => ?_, fun h => ?_⟩ <;> omega
              · omega
              · omega
            · refine ⟨show (1 : Int) = 0 ∨ 1 = 1 from by decide, ?_⟩
              have hk := k0 (f1) (by first | exact he1 | exact hrd1) (fun x K W hx hK => by first | (rw [show sl (f1 43) 0 (f1 (fv 42 3) 0) = _ from he2]; exact r_t (r_t (hR x K W hx hK) (jc_e hx (by omega))) (r_t (jc_1 hx (by omega)) (q_13e (by omega)))) | exact r_t (r_t (hR x K W hx hK) (jc_e hx (by omega))) (r_t (by rw [show jd9 = 0 by omega]; exact jc_0 hx) (q_13e (by omega)))) (by have q1 : (¬ jd9 = 0 ∧ f1 (fv 42 3) 0 = f1 (fv 42 3) 0 + 1) ∨ (jd9 = 0 ∧ f1 (fv 42 3) 0 = f1 (fv 42 3) 0) := by { first | exact Or.inl ⟨by omega, he3⟩ | exact Or.inr ⟨by omega, rfl⟩ }; show f1 (fv 42 3) 0 - f 47 (f1 (fv 41 6) 0) ≤ _; omega) (by show f 47 (f (fv 41 6) 0) < f 47 (f1 (fv 41 6) 0); omega)
              exact hk
          · refine hO (k_emit (by omega) (show (rdC (mx [43, fv 42 3, fv 42 5, fv 41 6, fv 41 7] f f1)) from hrd1) (show (f1 (fv 42 3) 0) < 400 from by omega) (show -9 ≤ (-18) → (-18) < 0 → bit (f1 (fv 42 5) 0) (-1 - (-18)) = true from fun h _ => absurd h (by decide)) (fun f1_32 (hh_33 :  (rdC (mx [43, fv 42 3] (mx [43, fv 42 3, fv 42 5, fv 41 6, fv 41 7] f f1) f1_32))) (hh_34 : (sl (f1_32 43) 0 (f1_32 (fv 42 3) 0)) = (sl (f1 43) 0 (f1 (fv 42 3) 0)) ++ [(-18)]) (hh_35 : f1_32 (fv 42 3) 0 = (f1 (fv 42 3) 0) + 1) => ?_))
            have he1 := hh_33
            have he2 := hh_34
            have he3 := hh_35
            refine ⟨fun (hh_36 : f1 (fv 41 7) 0 = 5) => ?_, fun (hh_36 : ¬ f1 (fv 41 7) 0 = 5) => ?_⟩
            · refine hO (k_step (by omega) (show (rdC (mx [43, fv 42 3] (mx [43, fv 42 3, fv 42 5, fv 41 6, fv 41 7] f f1) f1_32)) from by first | exact he1 | exact hrd1) (show ¬ (f1 (fv 41 7) 0) = 0 from by omega) (fun f1_37 (hh_38 :  (rdC (mx [fv 41 6, fv 41 7] (mx [43, fv 42 3] (mx [43, fv 42 3, fv 42 5, fv 41 6, fv 41 7] f f1) f1_32) f1_37))) (hh_39 : ((f 47 (f1_37 (fv 41 6) 0))) = (nxC f) ((f 47 (f1 (fv 41 6) 0)))) (hh_40 : ((f 47 (f1 (fv 41 6) 0))) < (nxC f) ((f 47 (f1 (fv 41 6) 0)))) => ?_))
              have ht1 := hh_38
              have ht2 := hh_39
              have ht3 := hh_40
              have htb : f 47 (f1_37 (fv 41 6) 0) ≤ f (fv 39 1) 0 := (rdC_b hh_38).2.1
              have htk : f1_37 (fv 41 7) 0 = kdC f (f 47 (f1_37 (fv 41 6) 0)) := rdC_k hh_38
              refine ⟨show inr (nn9 + 1) from by constructor <;> omega, ?_⟩
              have q2 : f 47 ((mx [fv 41 6, fv 41 7] (mx [43, fv 42 3] f1 f1_32) f1_37) (fv 41 6) 0) = _ := ht2
              have q1 : (¬ jd9 = 0 ∧ (mx [fv 41 6, fv 41 7] (mx [43, fv 42 3] f1 f1_32) f1_37) (fv 42 3) 0 = f1 (fv 42 3) 0 + 1) ∨ (jd9 = 0 ∧ (mx [fv 41 6, fv 41 7] (mx [43, fv 42 3] f1 f1_32) f1_37) (fv 42 3) 0 = f1 (fv 42 3) 0) := by first | exact Or.inl ⟨by omega, he3⟩ | exact Or.inr ⟨by omega, rfl⟩
              refine hB (2 * (401 - (f 47 ((mx [fv 41 6, fv 41 7] (mx [43, fv 42 3] f1 f1_32) f1_37) (fv 41 6) 0))) + 1 : Int).toNat ?_ (Or.inl ⟨rfl, 1, (nn9 + 1), (mx [fv 41 6, fv 41 7] (mx [43, fv 42 3] f1 f1_32) f1_37), rfl, rfl, (mx_mx rfl (mx_mx rfl rfl)), rfl, ?_, ?_, ?_, ?_, ?_, ?_⟩)
              · omega
              · exact ht1
              · omega
              · intro x K W hx hK
                rw [show f 47 ((mx [fv 41 6, fv 41 7] (mx [43, fv 42 3] f1 f1_32) f1_37) (fv 41 6) 0) = _ from ht2]
                first
                | (rw [show sl ((mx [fv 41 6, fv 41 7] (mx [43, fv 42 3] f1 f1_32) f1_37) 43) 0 ((mx [fv 41 6, fv 41 7] (mx [43, fv 42 3] f1 f1_32) f1_37) (fv 42 3) 0) = _ from he2]; exact r_t (r_t (hR x K W hx hK) (jc_e hx (by omega))) (r_t (jc_1 hx (by omega)) (q_13o (by omega))))
                | exact r_t (r_t (hR x K W hx hK) (jc_e hx (by omega))) (r_t (by rw [show jd9 = 0 by omega]; exact jc_0 hx) (q_13o (by omega)))
              · refine ⟨fun h => ?_, fun h => ?_⟩ <;> omega
              · omega
              · omega
            · refine ⟨show (1 : Int) = 0 ∨ 1 = 1 from by decide, ?_⟩
              have hk := k0 ((mx [43, fv 42 3] f1 f1_32)) (by first | exact he1 | exact hrd1) (fun x K W hx hK => by first | (rw [show sl ((mx [43, fv 42 3] f1 f1_32) 43) 0 ((mx [43, fv 42 3] f1 f1_32) (fv 42 3) 0) = _ from he2]; exact r_t (r_t (hR x K W hx hK) (jc_e hx (by omega))) (r_t (jc_1 hx (by omega)) (q_13e (by omega)))) | exact r_t (r_t (hR x K W hx hK) (jc_e hx (by omega))) (r_t (by rw [show jd9 = 0 by omega]; exact jc_0 hx) (q_13e (by omega)))) (by have q1 : (¬ jd9 = 0 ∧ (mx [43, fv 42 3] f1 f1_32) (fv 42 3) 0 = f1 (fv 42 3) 0 + 1) ∨ (jd9 = 0 ∧ (mx [43, fv 42 3] f1 f1_32) (fv 42 3) 0 = f1 (fv 42 3) 0) := by { first | exact Or.inl ⟨by omega, he3⟩ | exact Or.inr ⟨by omega, rfl⟩ }; show (mx [43, fv 42 3] f1 f1_32) (fv 42 3) 0 - f 47 (f1 (fv 41 6) 0) ≤ _; omega) (by show f 47 (f (fv 41 6) 0) < f 47 (f1 (fv 41 6) 0); omega)
              rw [show mx [43, fv 42 3, fv 42 5, fv 41 6, fv 41 7] f (mx [43, fv 42 3] f1 f1_32) = (mx [43, fv 42 3] (mx [43, fv 42 3, fv 42 5, fv 41 6, fv 41 7] f f1) f1_32) from ((mx_mx rfl rfl)).symm] at hk
              exact hk
      · refine ⟨fun (hh_41 : jd9 = 0) => ?_, fun (hh_41 : ¬ jd9 = 0) => ?_⟩
        · refine ⟨fun (hh_42 : f1 (fv 41 7) 0 = 5) => ?_, fun (hh_42 : ¬ f1 (fv 41 7) 0 = 5) => ?_⟩
          · refine hO (k_step (by omega) (show (rdC (mx [43, fv 42 3, fv 42 5, fv 41 6, fv 41 7] f f1)) from by first | exact he1 | exact hrd1) (show ¬ (f1 (fv 41 7) 0) = 0 from by omega) (fun f1_43 (hh_44 :  (rdC (mx [fv 41 6, fv 41 7] (mx [43, fv 42 3, fv 42 5, fv 41 6, fv 41 7] f f1) f1_43))) (hh_45 : ((f 47 (f1_43 (fv 41 6) 0))) = (nxC f) ((f 47 (f1 (fv 41 6) 0)))) (hh_46 : ((f 47 (f1 (fv 41 6) 0))) < (nxC f) ((f 47 (f1 (fv 41 6) 0)))) => ?_))
            have ht1 := hh_44
            have ht2 := hh_45
            have ht3 := hh_46
            have htb : f 47 (f1_43 (fv 41 6) 0) ≤ f (fv 39 1) 0 := (rdC_b hh_44).2.1
            have htk : f1_43 (fv 41 7) 0 = kdC f (f 47 (f1_43 (fv 41 6) 0)) := rdC_k hh_44
            refine ⟨show inr (nn9 + 1) from by constructor <;> omega, ?_⟩
            have q2 : f 47 ((mx [fv 41 6, fv 41 7] f1 f1_43) (fv 41 6) 0) = _ := ht2
            have q1 : (¬ jd9 = 0 ∧ (mx [fv 41 6, fv 41 7] f1 f1_43) (fv 42 3) 0 = f1 (fv 42 3) 0 + 1) ∨ (jd9 = 0 ∧ (mx [fv 41 6, fv 41 7] f1 f1_43) (fv 42 3) 0 = f1 (fv 42 3) 0) := by first | exact Or.inl ⟨by omega, he3⟩ | exact Or.inr ⟨by omega, rfl⟩
            refine hB (2 * (401 - (f 47 ((mx [fv 41 6, fv 41 7] f1 f1_43) (fv 41 6) 0))) + 1 : Int).toNat ?_ (Or.inl ⟨rfl, 1, (nn9 + 1), (mx [fv 41 6, fv 41 7] f1 f1_43), rfl, rfl, (mx_mx rfl rfl), rfl, ?_, ?_, ?_, ?_, ?_, ?_⟩)
            · omega
            · exact ht1
            · omega
            · intro x K W hx hK
              rw [show f 47 ((mx [fv 41 6, fv 41 7] f1 f1_43) (fv 41 6) 0) = _ from ht2]
              first
              | (rw [show sl ((mx [fv 41 6, fv 41 7] f1 f1_43) 43) 0 ((mx [fv 41 6, fv 41 7] f1 f1_43) (fv 42 3) 0) = _ from he2]; exact r_t (r_t (hR x K W hx hK) (jc_e hx (by omega))) (r_t (jc_1 hx (by omega)) (q_13o (by omega))))
              | exact r_t (r_t (hR x K W hx hK) (jc_e hx (by omega))) (r_t (by rw [show jd9 = 0 by omega]; exact jc_0 hx) (q_13o (by omega)))
            · refine ⟨fun h => ?_, fun h => ?_⟩ <;> omega
            · omega
            · omega
          · refine ⟨show (1 : Int) = 0 ∨ 1 = 1 from by decide, ?_⟩
            have hk := k0 (f1) (by first | exact he1 | exact hrd1) (fun x K W hx hK => by first | (rw [show sl (f1 43) 0 (f1 (fv 42 3) 0) = _ from he2]; exact r_t (r_t (hR x K W hx hK) (jc_e hx (by omega))) (r_t (jc_1 hx (by omega)) (q_13e (by omega)))) | exact r_t (r_t (hR x K W hx hK) (jc_e hx (by omega))) (r_t (by rw [show jd9 = 0 by omega]; exact jc_0 hx) (q_13e (by omega)))) (by have q1 : (¬ jd9 = 0 ∧ f1 (fv 42 3) 0 = f1 (fv 42 3) 0 + 1) ∨ (jd9 = 0 ∧ f1 (fv 42 3) 0 = f1 (fv 42 3) 0) := by { first | exact Or.inl ⟨by omega, he3⟩ | exact Or.inr ⟨by omega, rfl⟩ }; show f1 (fv 42 3) 0 - f 47 (f1 (fv 41 6) 0) ≤ _; omega) (by show f 47 (f (fv 41 6) 0) < f 47 (f1 (fv 41 6) 0); omega)
            exact hk
        · refine hO (k_emit (by omega) (show (rdC (mx [43, fv 42 3, fv 42 5, fv 41 6, fv 41 7] f f1)) from hrd1) (show (f1 (fv 42 3) 0) < 400 from by omega) (show -9 ≤ (-18) → (-18) < 0 → bit (f1 (fv 42 5) 0) (-1 - (-18)) = true from fun h _ => absurd h (by decide)) (fun f1_47 (hh_48 :  (rdC (mx [43, fv 42 3] (mx [43, fv 42 3, fv 42 5, fv 41 6, fv 41 7] f f1) f1_47))) (hh_49 : (sl (f1_47 43) 0 (f1_47 (fv 42 3) 0)) = (sl (f1 43) 0 (f1 (fv 42 3) 0)) ++ [(-18)]) (hh_50 : f1_47 (fv 42 3) 0 = (f1 (fv 42 3) 0) + 1) => ?_))
          have he1 := hh_48
          have he2 := hh_49
          have he3 := hh_50
          refine ⟨fun (hh_51 : f1 (fv 41 7) 0 = 5) => ?_, fun (hh_51 : ¬ f1 (fv 41 7) 0 = 5) => ?_⟩
          · refine hO (k_step (by omega) (show (rdC (mx [43, fv 42 3] (mx [43, fv 42 3, fv 42 5, fv 41 6, fv 41 7] f f1) f1_47)) from by first | exact he1 | exact hrd1) (show ¬ (f1 (fv 41 7) 0) = 0 from by omega) (fun f1_52 (hh_53 :  (rdC (mx [fv 41 6, fv 41 7] (mx [43, fv 42 3] (mx [43, fv 42 3, fv 42 5, fv 41 6, fv 41 7] f f1) f1_47) f1_52))) (hh_54 : ((f 47 (f1_52 (fv 41 6) 0))) = (nxC f) ((f 47 (f1 (fv 41 6) 0)))) (hh_55 : ((f 47 (f1 (fv 41 6) 0))) < (nxC f) ((f 47 (f1 (fv 41 6) 0)))) => ?_))
            have ht1 := hh_53
            have ht2 := hh_54
            have ht3 := hh_55
            have htb : f 47 (f1_52 (fv 41 6) 0) ≤ f (fv 39 1) 0 := (rdC_b hh_53).2.1
            have htk : f1_52 (fv 41 7) 0 = kdC f (f 47 (f1_52 (fv 41 6) 0)) := rdC_k hh_53
            refine ⟨show inr (nn9 + 1) from by constructor <;> omega, ?_⟩
            have q2 : f 47 ((mx [fv 41 6, fv 41 7] (mx [43, fv 42 3] f1 f1_47) f1_52) (fv 41 6) 0) = _ := ht2
            have q1 : (¬ jd9 = 0 ∧ (mx [fv 41 6, fv 41 7] (mx [43, fv 42 3] f1 f1_47) f1_52) (fv 42 3) 0 = f1 (fv 42 3) 0 + 1) ∨ (jd9 = 0 ∧ (mx [fv 41 6, fv 41 7] (mx [43, fv 42 3] f1 f1_47) f1_52) (fv 42 3) 0 = f1 (fv 42 3) 0) := by first | exact Or.inl ⟨by omega, he3⟩ | exact Or.inr ⟨by omega, rfl⟩
            refine hB (2 * (401 - (f 47 ((mx [fv 41 6, fv 41 7] (mx [43, fv 42 3] f1 f1_47) f1_52) (fv 41 6) 0))) + 1 : Int).toNat ?_ (Or.inl ⟨rfl, 1, (nn9 + 1), (mx [fv 41 6, fv 41 7] (mx [43, fv 42 3] f1 f1_47) f1_52), rfl, rfl, (mx_mx rfl (mx_mx rfl rfl)), rfl, ?_, ?_, ?_, ?_, ?_, ?_⟩)
            · omega
            · exact ht1
            · omega
            · intro x K W hx hK
              rw [show f 47 ((mx [fv 41 6, fv 41 7] (mx [43, fv 42 3] f1 f1_47) f1_52) (fv 41 6) 0) = _ from ht2]
              first
              | (rw [show sl ((mx [fv 41 6, fv 41 7] (mx [43, fv 42 3] f1 f1_47) f1_52) 43) 0 ((mx [fv 41 6, fv 41 7] (mx [43, fv 42 3] f1 f1_47) f1_52) (fv 42 3) 0) = _ from he2]; exact r_t (r_t (hR x K W hx hK) (jc_e hx (by omega))) (r_t (jc_1 hx (by omega)) (q_13o (by omega))))
              | exact r_t (r_t (hR x K W hx hK) (jc_e hx (by omega))) (r_t (by rw [show jd9 = 0 by omega]; exact jc_0 hx) (q_13o (by omega)))
            · refine ⟨fun h => ?_, fun h => ?_⟩ <;> omega
            · omega
            · omega
          · refine ⟨show (1 : Int) = 0 ∨ 1 = 1 from by decide, ?_⟩
            have hk := k0 ((mx [43, fv 42 3] f1 f1_47)) (by first | exact he1 | exact hrd1) (fun x K W hx hK => by first | (rw [show sl ((mx [43, fv 42 3] f1 f1_47) 43) 0 ((mx [43, fv 42 3] f1 f1_47) (fv 42 3) 0) = _ from he2]; exact r_t (r_t (hR x K W hx hK) (jc_e hx (by omega))) (r_t (jc_1 hx (by omega)) (q_13e (by omega)))) | exact r_t (r_t (hR x K W hx hK) (jc_e hx (by omega))) (r_t (by rw [show jd9 = 0 by omega]; exact jc_0 hx) (q_13e (by omega)))) (by have q1 : (¬ jd9 = 0 ∧ (mx [43, fv 42 3] f1 f1_47) (fv 42 3) 0 = f1 (fv 42 3) 0 + 1) ∨ (jd9 = 0 ∧ (mx [43, fv 42 3] f1 f1_47) (fv 42 3) 0 = f1 (fv 42 3) 0) := by { first | exact Or.inl ⟨by omega, he3⟩ | exact Or.inr ⟨by omega, rfl⟩ }; show (mx [43, fv 42 3] f1 f1_47) (fv 42 3) 0 - f 47 (f1 (fv 41 6) 0) ≤ _; omega) (by show f 47 (f (fv 41 6) 0) < f 47 (f1 (fv 41 6) 0); omega)
            rw [show mx [43, fv 42 3, fv 42 5, fv 41 6, fv 41 7] f (mx [43, fv 42 3] f1 f1_47) = (mx [43, fv 42 3] (mx [43, fv 42 3, fv 42 5, fv 41 6, fv 41 7] f f1) f1_47) from ((mx_mx rfl rfl)).symm] at hk
            exact hk
  · have hb0 := rdC_b hrd
    have hkd0 := rdC_k hrd
    have hki := kdP_r (t := f 40) (len := f (fv 39 1) 0) (a := f 47 (f (fv 41 6) 0))
    rw [show kdP (f 40) (f (fv 39 1) 0) (f 47 (f (fv 41 6) 0)) = f (fv 41 7) 0 from hkd0.symm] at hki
    refine hF (2 * (401 - (f 47 (f (fv 41 6) 0))) + 1 : Int).toNat ?_ (Or.inl ⟨rfl, 0, 0, f, rfl, rfl, mx_rf, rfl, ?_, ?_, ?_, ?_, ?_, ?_⟩)
    · omega
    · exact hrd
    · omega
    · intro x K W hx hK; exact r_0
    · refine ⟨fun _ => Int.le_refl _, fun h => ?_⟩; omega
    · exact ⟨Int.le_refl _, by omega⟩
    · omega
end C40
section C40b
/-- claims, openings, choices: all depths -/
theorem k_all : ∀ m9 : Nat, (m9 ≤ 8 → (∀ {d : Nat} {f : iF} {g : iG} {Q : Option iv → iF → iG → Prop} {op9 : Int} (hd : 3 * m9 + 4 ≤ d) (hrd : (rdC f)) (hsz : (f (fv 42 3) 0) ≤ ((f 47 (f (fv 41 6) 0)))) (hop : op9 = 8 - (m9 : Int) ∧ 0 ≤ op9) (k0 : ∀ f1 : iF, ( (rdC (mx [43, fv 42 3, fv 42 5, fv 41 6, fv 41 7] f f1))) → (∀ K W, opn K = op9 → Rch (kdC f) (nxC f) (8, K, ((f 47 (f (fv 41 6) 0))), (sl (f 43) 0 (f (fv 42 3) 0)), W) (9, K, ((f 47 (f1 (fv 41 6) 0))), (sl (f1 43) 0 (f1 (fv 42 3) 0)), W)) → (f1 (fv 42 3) 0 - ((f 47 (f1 (fv 41 6) 0))) ≤ (f (fv 42 3) 0) - ((f 47 (f (fv 41 6) 0)))) → (((f 47 (f (fv 41 6) 0))) < ((f 47 (f1 (fv 41 6) 0)))) → Q (some (iI 1)) (mx [43, fv 42 3, fv 42 5, fv 41 6, fv 41 7] f f1) g) (k1 : ∀ f1 : iF, (∀ K W, opn K = op9 → flt (kdC f) (nxC f) (8, K, ((f 47 (f (fv 41 6) 0))), (sl (f 43) 0 (f (fv 42 3) 0)), W) (f1 (fv 41 1) 0) (f1 (fv 41 2) 0)) → Q (some (iI 0)) (mx [43, fv 42 3, fv 42 5, fv 41 1, fv 41 2, fv 41 6, fv 41 7] f f1) g), wq d 133 [iR 41, iI op9] f g Q) ∧ (∀ {d : Nat} {f : iF} {g : iG} {Q : Option iv → iF → iG → Prop} {op9 : Int} (hd : 3 * m9 + 5 ≤ d) (hrd : (rdC f)) (hsz : (f (fv 42 3) 0) ≤ ((f 47 (f (fv 41 6) 0)))) (hop : op9 = 8 - (m9 : Int) ∧ 0 ≤ op9) (k0 : ∀ f1 : iF, ( (rdC (mx [43, fv 42 3, fv 42 5, fv 41 6, fv 41 7] f f1))) → (∀ x K W, (x = 22 ∨ x = 12) → opn (x :: K) = op9 → Rch (kdC f) (nxC f) (8, x :: K, ((f 47 (f (fv 41 6) 0))), (sl (f 43) 0 (f (fv 42 3) 0)), W) (14, x :: K, ((f 47 (f1 (fv 41 6) 0))), (sl (f1 43) 0 (f1 (fv 42 3) 0)), W)) → (f1 (fv 42 3) 0 - ((f 47 (f1 (fv 41 6) 0))) ≤ (f (fv 42 3) 0) - ((f 47 (f (fv 41 6) 0)))) → (((f 47 (f (fv 41 6) 0))) < ((f 47 (f1 (fv 41 6) 0)))) → Q (some (iI 1)) (mx [43, fv 42 3, fv 42 5, fv 41 6, fv 41 7] f f1) g) (k1 : ∀ f1 : iF, (∀ x K W, (x = 22 ∨ x = 12) → opn (x :: K) = op9 → flt (kdC f) (nxC f) (8, x :: K, ((f 47 (f (fv 41 6) 0))), (sl (f 43) 0 (f (fv 42 3) 0)), W) (f1 (fv 41 1) 0) (f1 (fv 41 2) 0)) → Q (some (iI 0)) (mx [43, fv 42 3, fv 42 5, fv 41 1, fv 41 2, fv 41 6, fv 41 7] f f1) g), wq d 132 [iR 41, iI op9] f g Q))
  | 0 => fun h => by
    have ho : ∀ {d : Nat} {f : iF} {g : iG} {Q : Option iv → iF → iG → Prop} {op9 : Int} (hd : 3 * (0 : Nat) + 3 ≤ d) (hrd : (rdC f)) (hsz : (f (fv 42 3) 0) ≤ ((f 47 (f (fv 41 6) 0)))) (hop : op9 = 8 - ((0 : Nat) : Int) ∧ 0 ≤ op9) (hko : (f (fv 41 7) 0) = 7 ∨ (f (fv 41 7) 0) = 40) (k0 : ∀ f1 : iF, ( (rdC (mx [43, fv 42 3, fv 42 5, fv 41 6, fv 41 7] f f1))) → (∀ K W, opn K = op9 → Rch (kdC f) (nxC f) (8, K, ((f 47 (f (fv 41 6) 0))), (sl (f 43) 0 (f (fv 42 3) 0)), W) (9, K, ((f 47 (f1 (fv 41 6) 0))), (sl (f1 43) 0 (f1 (fv 42 3) 0)), W)) → (f1 (fv 42 3) 0 - ((f 47 (f1 (fv 41 6) 0))) ≤ (f (fv 42 3) 0) - ((f 47 (f (fv 41 6) 0)))) → (((f 47 (f (fv 41 6) 0))) < ((f 47 (f1 (fv 41 6) 0)))) → Q (some (iI 1)) (mx [43, fv 42 3, fv 42 5, fv 41 6, fv 41 7] f f1) g) (k1 : ∀ f1 : iF, (∀ K W, opn K = op9 → flt (kdC f) (nxC f) (8, K, ((f 47 (f (fv 41 6) 0))), (sl (f 43) 0 (f (fv 42 3) 0)), W) (f1 (fv 41 1) 0) (f1 (fv 41 2) 0)) → Q (some (iI 0)) (mx [43, fv 42 3, fv 42 5, fv 41 1, fv 41 2, fv 41 6, fv 41 7] f f1) g), wq d 134 [iR 41, iI op9] f g Q := fun hd hrd hsz hop hko k0 k1 => k_open0 (m9 := 0) hd hrd hsz (by omega) hko k0 k1
    have hc : ∀ {d : Nat} {f : iF} {g : iG} {Q : Option iv → iF → iG → Prop} {op9 : Int} (hd : 3 * (0 : Nat) + 4 ≤ d) (hrd : (rdC f)) (hsz : (f (fv 42 3) 0) ≤ ((f 47 (f (fv 41 6) 0)))) (hop : op9 = 8 - ((0 : Nat) : Int) ∧ 0 ≤ op9) (k0 : ∀ f1 : iF, ( (rdC (mx [43, fv 42 3, fv 42 5, fv 41 6, fv 41 7] f f1))) → (∀ K W, opn K = op9 → Rch (kdC f) (nxC f) (8, K, ((f 47 (f (fv 41 6) 0))), (sl (f 43) 0 (f (fv 42 3) 0)), W) (9, K, ((f 47 (f1 (fv 41 6) 0))), (sl (f1 43) 0 (f1 (fv 42 3) 0)), W)) → (f1 (fv 42 3) 0 - ((f 47 (f1 (fv 41 6) 0))) ≤ (f (fv 42 3) 0) - ((f 47 (f (fv 41 6) 0)))) → (((f 47 (f (fv 41 6) 0))) < ((f 47 (f1 (fv 41 6) 0)))) → Q (some (iI 1)) (mx [43, fv 42 3, fv 42 5, fv 41 6, fv 41 7] f f1) g) (k1 : ∀ f1 : iF, (∀ K W, opn K = op9 → flt (kdC f) (nxC f) (8, K, ((f 47 (f (fv 41 6) 0))), (sl (f 43) 0 (f (fv 42 3) 0)), W) (f1 (fv 41 1) 0) (f1 (fv 41 2) 0)) → Q (some (iI 0)) (mx [43, fv 42 3, fv 42 5, fv 41 1, fv 41 2, fv 41 6, fv 41 7] f f1) g), wq d 133 [iR 41, iI op9] f g Q := fun hd hrd hsz hop k0 k1 => k_claimS (m9 := 0) ho hd hrd hsz hop k0 k1
    exact ⟨hc, fun hd hrd hsz hop k0 k1 => k_choiceS (m9 := 0) hc hd hrd hsz hop k0 k1⟩
  | m9 + 1 => fun h => by
    obtain ⟨IHc, IHh⟩ := k_all m9 (by omega)
    have ho : ∀ {d : Nat} {f : iF} {g : iG} {Q : Option iv → iF → iG → Prop} {op9 : Int} (hd : 3 * (m9 + 1 : Nat) + 3 ≤ d) (hrd : (rdC f)) (hsz : (f (fv 42 3) 0) ≤ ((f 47 (f (fv 41 6) 0)))) (hop : op9 = 8 - ((m9 + 1 : Nat) : Int) ∧ 0 ≤ op9) (hko : (f (fv 41 7) 0) = 7 ∨ (f (fv 41 7) 0) = 40) (k0 : ∀ f1 : iF, ( (rdC (mx [43, fv 42 3, fv 42 5, fv 41 6, fv 41 7] f f1))) → (∀ K W, opn K = op9 → Rch (kdC f) (nxC f) (8, K, ((f 47 (f (fv 41 6) 0))), (sl (f 43) 0 (f (fv 42 3) 0)), W) (9, K, ((f 47 (f1 (fv 41 6) 0))), (sl (f1 43) 0 (f1 (fv 42 3) 0)), W)) → (f1 (fv 42 3) 0 - ((f 47 (f1 (fv 41 6) 0))) ≤ (f (fv 42 3) 0) - ((f 47 (f (fv 41 6) 0)))) → (((f 47 (f (fv 41 6) 0))) < ((f 47 (f1 (fv 41 6) 0)))) → Q (some (iI 1)) (mx [43, fv 42 3, fv 42 5, fv 41 6, fv 41 7] f f1) g) (k1 : ∀ f1 : iF, (∀ K W, opn K = op9 → flt (kdC f) (nxC f) (8, K, ((f 47 (f (fv 41 6) 0))), (sl (f 43) 0 (f (fv 42 3) 0)), W) (f1 (fv 41 1) 0) (f1 (fv 41 2) 0)) → Q (some (iI 0)) (mx [43, fv 42 3, fv 42 5, fv 41 1, fv 41 2, fv 41 6, fv 41 7] f f1) g), wq d 134 [iR 41, iI op9] f g Q := fun hd hrd hsz hop hko k0 k1 => k_openS (m9 := m9) IHc IHh hd hrd hsz (by omega) hko k0 k1
    have hc : ∀ {d : Nat} {f : iF} {g : iG} {Q : Option iv → iF → iG → Prop} {op9 : Int} (hd : 3 * (m9 + 1 : Nat) + 4 ≤ d) (hrd : (rdC f)) (hsz : (f (fv 42 3) 0) ≤ ((f 47 (f (fv 41 6) 0)))) (hop : op9 = 8 - ((m9 + 1 : Nat) : Int) ∧ 0 ≤ op9) (k0 : ∀ f1 : iF, ( (rdC (mx [43, fv 42 3, fv 42 5, fv 41 6, fv 41 7] f f1))) → (∀ K W, opn K = op9 → Rch (kdC f) (nxC f) (8, K, ((f 47 (f (fv 41 6) 0))), (sl (f 43) 0 (f (fv 42 3) 0)), W) (9, K, ((f 47 (f1 (fv 41 6) 0))), (sl (f1 43) 0 (f1 (fv 42 3) 0)), W)) → (f1 (fv 42 3) 0 - ((f 47 (f1 (fv 41 6) 0))) ≤ (f (fv 42 3) 0) - ((f 47 (f (fv 41 6) 0)))) → (((f 47 (f (fv 41 6) 0))) < ((f 47 (f1 (fv 41 6) 0)))) → Q (some (iI 1)) (mx [43, fv 42 3, fv 42 5, fv 41 6, fv 41 7] f f1) g) (k1 : ∀ f1 : iF, (∀ K W, opn K = op9 → flt (kdC f) (nxC f) (8, K, ((f 47 (f (fv 41 6) 0))), (sl (f 43) 0 (f (fv 42 3) 0)), W) (f1 (fv 41 1) 0) (f1 (fv 41 2) 0)) → Q (some (iI 0)) (mx [43, fv 42 3, fv 42 5, fv 41 1, fv 41 2, fv 41 6, fv 41 7] f f1) g), wq d 133 [iR 41, iI op9] f g Q := fun hd hrd hsz hop k0 k1 => k_claimS (m9 := m9 + 1) ho hd hrd hsz hop k0 k1
    exact ⟨hc, fun hd hrd hsz hop k0 k1 => k_choiceS (m9 := m9 + 1) hc hd hrd hsz hop k0 k1⟩
end C40b
