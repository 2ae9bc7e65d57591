section C45
variable {d : Nat} {f : iF} {g : iG} {Q : Option iv → iF → iG → Prop}
/-! ===== the reference: claims of a text ===== -/
/-- what waits, the latest first -/
def pdN (r : Int → Int) : Nat → List Int
  | 0 => []
  | n + 1 => r (n : Int) :: pdN r n
def pdI (r : Int → Int) (n : Int) : List Int := pdN r n.toNat
theorem pdI_0 {r : Int → Int} : pdI r 0 = [] := rfl
theorem pdI_s {r : Int → Int} {n : Int} (h : 0 < n) : pdI r n = r (n - 1) :: pdI r (n - 1) := by
  unfold pdI
  rw [show n.toNat = (n - 1).toNat + 1 by omega, pdN, show (((n - 1).toNat : Nat) : Int) = n - 1 by omega]
theorem pdN_cg {r r' : Int → Int} : ∀ n : Nat, (∀ k : Int, 0 ≤ k → k < n → r k = r' k) → pdN r n = pdN r' n
  | 0, _ => rfl
  | n + 1, h => by rw [pdN, pdN, h n (by omega) (by omega), pdN_cg n (fun k k0 k1 => h k k0 (by omega))]
theorem pdI_up {r : Int → Int} {n v : Int} (h : 0 ≤ n) : pdI (up r n v) (n + 1) = v :: pdI r n := by
  rw [pdI_s (by omega), show n + 1 - 1 = n by omega, up_s]
  congr 1
  exact pdN_cg _ (fun k k0 k1 => up_n (by omega))
theorem pdN_len {r : Int → Int} : ∀ n : Nat, (pdN r n).length = n
  | 0 => rfl
  | n + 1 => by rw [pdN, List.length_cons, pdN_len n]
theorem pdI_len {r : Int → Int} {n : Int} (h : 0 ≤ n) : ((pdI r n).length : Int) = n := by unfold pdI; rw [pdN_len]; omega
/-- what waits is in order -/
def pok : List Int → Prop
  | [] => True
  | x :: P => (9 ≤ x ∧ x ≤ 12) ∧ (x = 10 → ¬ hdv P = 9 ∧ ¬ hdv P = 10) ∧ (x = 11 → ¬ hdv P = 9 ∧ ¬ hdv P = 10 ∧ ¬ hdv P = 11) ∧ pok P
theorem pok_len : ∀ {P : List Int}, pok P → (P.length : Int) ≤ 3 * opn P + 2 ∧ (¬ hdv P = 10 → (P.length : Int) ≤ 3 * opn P + 1) ∧ (¬ hdv P = 10 → ¬ hdv P = 11 → (P.length : Int) ≤ 3 * opn P)
  | [], _ => by decide
  | x :: P, h => by
    have ih := pok_len h.2.2.2
    obtain ⟨h1, h2, h3, h4⟩ := h
    rw [List.length_cons, opn]
    show _ ∧ (¬ x = 10 → _) ∧ (¬ x = 10 → ¬ x = 11 → _)
    by_cases e : x = 9 ∨ x = 12
    · rw [if_pos e]; omega
    · rw [if_neg e]
      by_cases e1 : x = 10
      · have := ih.2.1 (h2 e1).2; omega
      · have q := h3 (by omega)
        have := ih.2.2 q.2.1 q.2.2; omega
def c12 : List Int → Int
  | [] => 0
  | x :: P => (if x = 12 then 1 else 0) + c12 P
theorem c12_r : ∀ P : List Int, 0 ≤ c12 P
  | [] => Int.le_refl 0
  | x :: P => by have := c12_r P; rw [c12]; split <;> omega
theorem c12_12 {P : List Int} : c12 (12 :: P) = c12 P + 1 := by rw [c12, if_pos rfl]; omega
theorem c12_n {x : Int} {P : List Int} (h : ¬ x = 12) : c12 (x :: P) = c12 P := by rw [c12, if_neg h]; omega
/-- many of one kind on top -/
theorem rp_pok {w : Int} {P : List Int} : ∀ k : Nat, pok (List.replicate k w ++ P) → pok P
  | 0, h => h
  | k + 1, h => rp_pok k h.2.2.2
theorem rp_c12 {w : Int} {P : List Int} (h : ¬ w = 12) : ∀ k : Nat, c12 (List.replicate k w ++ P) = c12 P
  | 0 => rfl
  | k + 1 => by rw [List.replicate_succ, List.cons_append, c12_n h, rp_c12 h k]
theorem rp_opn {w : Int} {P : List Int} (h : ¬ w = 9 ∧ ¬ w = 12) : ∀ k : Nat, opn (List.replicate k w ++ P) = opn P
  | 0 => rfl
  | k + 1 => by rw [List.replicate_succ, List.cons_append, opn, if_neg (by omega), rp_opn h k]; omega
theorem rp_opn9 {P : List Int} : ∀ k : Nat, opn (List.replicate k 9 ++ P) = opn P + k
  | 0 => by show opn P = opn P + 0; omega
  | k + 1 => by rw [List.replicate_succ, List.cons_append, opn9, rp_opn9 k]; omega
/-- behind ands that were settled no not is on top -/
theorem rp_h10 {P : List Int} : ∀ k : Nat, pok (List.replicate k 10 ++ P) → ¬ hdv (List.replicate k 10 ++ P) = 9 → ¬ hdv P = 9
  | 0, _, h => h
  | k + 1, h, _ => by
    have h2 := h.2.1 rfl
    cases k with
    | zero => exact h2.1
    | succ k => exact rp_h10 (k + 1) h.2.2.2 h2.1
theorem rp_h11 {P : List Int} : ∀ k : Nat, pok (List.replicate k 11 ++ P) → ¬ hdv (List.replicate k 11 ++ P) = 9 → ¬ hdv (List.replicate k 11 ++ P) = 10 → ¬ hdv P = 9 ∧ ¬ hdv P = 10
  | 0, _, h, h' => ⟨h, h'⟩
  | k + 1, h, _, _ => by
    have h2 := h.2.2.1 rfl
    cases k with
    | zero => exact ⟨h2.1, h2.2.1⟩
    | succ k => exact rp_h11 (k + 1) h.2.2.2 h2.1 h2.2.1
theorem pok_h {P : List Int} (h : pok P) (h9 : ¬ hdv P = 9) (h10 : ¬ hdv P = 10) (h11 : ¬ hdv P = 11) : (P = [] ∧ c12 P = 0) ∨ ∃ R, P = 12 :: R ∧ 0 < c12 P := by
  cases P with
  | nil => exact Or.inl ⟨rfl, rfl⟩
  | cons x R =>
    have hx := h.1
    have e : x = 12 := by
      have q9 : ¬ x = 9 := h9
      have q10 : ¬ x = 10 := h10
      have q11 : ¬ x = 11 := h11
      omega
    subst e
    exact Or.inr ⟨R, rfl, by have := c12_r R; rw [c12_12]; omega⟩
section SETT
variable {kd nx : Int → Int} {a : Int} {K : List Int}
theorem st_9 : ∀ (k : Nat) (C W : List Int), Rch kd nx (9, List.replicate k 9 ++ K, a, C, W) (9, K, a, C ++ List.replicate k (-19), W)
  | 0, C, W => by rw [show C ++ List.replicate 0 (-19 : Int) = C from List.append_nil C]; exact r_0
  | k + 1, C, W => by
    have := st_9 k (C ++ [-19]) W
    rw [List.append_assoc, show [(-19 : Int)] ++ List.replicate k (-19) = List.replicate (k + 1) (-19) from rfl] at this
    exact r_t q_9n this
theorem st_10 : ∀ (k : Nat) (C W : List Int), Rch kd nx (10, List.replicate k 10 ++ K, a, C, W) (10, K, a, C ++ List.replicate k (-17), W)
  | 0, C, W => by rw [show C ++ List.replicate 0 (-17 : Int) = C from List.append_nil C]; exact r_0
  | k + 1, C, W => by
    have := st_10 k (C ++ [-17]) W
    rw [List.append_assoc, show [(-17 : Int)] ++ List.replicate k (-17) = List.replicate (k + 1) (-17) from rfl] at this
    exact r_t q_10a this
theorem st_11 : ∀ (k : Nat) (C W : List Int), Rch kd nx (12, List.replicate k 11 ++ K, a, C, W) (12, K, a, C ++ List.replicate k (-18), W)
  | 0, C, W => by rw [show C ++ List.replicate 0 (-18 : Int) = C from List.append_nil C]; exact r_0
  | k + 1, C, W => by
    have := st_11 k (C ++ [-18]) W
    rw [List.append_assoc, show [(-18 : Int)] ++ List.replicate k (-18) = List.replicate (k + 1) (-18) from rfl] at this
    exact r_t q_12o this
theorem hd22 {P : List Int} {x : Int} (h : ¬ hdv P = x) (hx : ¬ 22 = x) : ¬ hdv (P ++ [22]) = x := by
  cases P with
  | nil => exact hx
  | cons y R => exact h
end SETT
set_option maxRecDepth 100000 in
set_option maxHeartbeats 4000000 in
theorem c_waits {w9 : Int} (hd : 1 ≤ d) (hp : 0 ≤ (f (fv 79 36) 0) ∧ (f (fv 79 36) 0) < 40) (k0 : Q none (wv (wv f 99 (f (fv 79 36) 0) w9) (fv 79 36) 0 ((f (fv 79 36) 0) + 1)) g) : wq d 36 [iR 79, iI w9] f g Q := by
  obtain ⟨d, rfl⟩ : ∃ e, d = e + 1 := ⟨d - 1, by omega⟩
  refine i_meth0 rfl rfl (fun O J hO => ?_)
  refine ⟨show 0 ≤ (f (fv 79 36) 0 : Int) ∧ f (fv 79 36) 0 < 40 from by omega, ?_⟩
  refine Or.inl ⟨show inr ((f (fv 79 36) 0) + 1) from by constructor <;> omega, ?_⟩
  exact k0
theorem rp_s {k : Nat} {w : Int} {P : List Int} : List.replicate k w ++ w :: P = List.replicate (k + 1) w ++ P := by
  rw [List.replicate_succ', List.append_assoc]; rfl
theorem rp_e {k : Nat} {w : Int} {C : List Int} : C ++ List.replicate k w ++ [w] = C ++ List.replicate (k + 1) w := by
  rw [List.replicate_succ', List.append_assoc]
set_option maxRecDepth 100000 in
set_option maxHeartbeats 4000000 in
theorem c_settles {w9 : Int} (hd : 2 ≤ d) (hrd : (rdR f)) (hsz : (f (fv 79 33) 0) + (f (fv 79 36) 0) ≤ 400) (hp : 0 ≤ (f (fv 79 36) 0) ∧ (f (fv 79 36) 0) ≤ 40) (hw : 9 ≤ w9 ∧ w9 ≤ 11) (hop : w9 = 9 → 0 ≤ (f (fv 79 34) 0) ∧ (f (fv 79 34) 0) ≤ 100) (k0 : ∀ kk : Nat, ∀ f1 : iF, ( (rdR (mx [97, 98, fv 79 33, fv 79 34, fv 79 36] f f1))) → ((pdI (f 99) (f (fv 79 36) 0)) = List.replicate kk w9 ++ (pdI (f 99) (f1 (fv 79 36) 0))) → ((sl (rcd f1) 400 (400 + f1 (fv 79 33) 0)) = (sl (rcd f) 400 (400 + (f (fv 79 33) 0))) ++ List.replicate kk (enc w9 0)) → (f1 (fv 79 33) 0 = (f (fv 79 33) 0) + kk ∧ f1 (fv 79 36) 0 = (f (fv 79 36) 0) - kk ∧ 0 ≤ f1 (fv 79 36) 0) → (¬ hdv (pdI (f 99) (f1 (fv 79 36) 0)) = w9) → ((w9 = 9 → f1 (fv 79 34) 0 = (f (fv 79 34) 0) - kk) ∧ (¬ w9 = 9 → f1 (fv 79 34) 0 = (f (fv 79 34) 0))) → ((dfr f) f1) → Q none (mx [97, 98, fv 79 33, fv 79 34, fv 79 36] f f1) g) : wq d 37 [iR 79, iI w9] f g Q := by
  obtain ⟨d, rfl⟩ : ∃ e, d = e + 1 := ⟨d - 1, by omega⟩
  refine i_methZ [(0, 2)] (fun n j lv st f' g' => (j = 0 ∧ ∃ (kk9 : Nat) (f1 : iF), lv = [some (iR 79), some (iI w9)] ∧ st = [] ∧ f' = (mx [97, 98, fv 79 33, fv 79 34, fv 79 36] f f1) ∧ g = g' ∧ (rdR (mx [97, 98, fv 79 33, fv 79 34, fv 79 36] f f1)) ∧ (pdI (f 99) (f (fv 79 36) 0) = List.replicate kk9 w9 ++ pdI (f 99) (f1 (fv 79 36) 0)) ∧ (sl (rcd f1) 400 (400 + f1 (fv 79 33) 0) = sl (rcd f) 400 (400 + f (fv 79 33) 0) ++ List.replicate kk9 (enc w9 0)) ∧ (f1 (fv 79 33) 0 = f (fv 79 33) 0 + kk9 ∧ f1 (fv 79 36) 0 = f (fv 79 36) 0 - kk9 ∧ 0 ≤ f1 (fv 79 36) 0) ∧ ((w9 = 9 → f1 (fv 79 34) 0 = f (fv 79 34) 0 - kk9) ∧ (¬ w9 = 9 → f1 (fv 79 34) 0 = f (fv 79 34) 0)) ∧ (dfr f f1) ∧ (n : Int) = (f1 (fv 79 36) 0))) 45 (by omega) rfl rfl (fun n j lv st f' g' hn hI O J hO hF hB => ?_) (fun hvs hin => ?_)
  · obtain ⟨rfl, kk9, f1, rfl, rfl, rfl, rfl, hrd1, hPD, hC, hz, ho, hdf, hm⟩ := hI
    have hb0 := rdR_b hrd
    refine ⟨fun (hh_1 : 0 < f1 (fv 79 36) 0) => ?_, fun (hh_1 : ¬ 0 < f1 (fv 79 36) 0) => ?_⟩
    · refine Or.inl ⟨show inr ((f1 (fv 79 36) 0) - 1) from by constructor <;> omega, ?_⟩
      refine ⟨show 0 ≤ (((f1 (fv 79 36) 0) - 1) : Int) ∧ ((f1 (fv 79 36) 0) - 1) < 40 from by omega, ?_⟩
      refine ⟨fun (hh_2 : f 99 ((f1 (fv 79 36) 0) - 1) = w9) => ?_, fun (hh_2 : ¬ f 99 ((f1 (fv 79 36) 0) - 1) = w9) => ?_⟩
      · refine Or.inl ⟨show inr ((f1 (fv 79 36) 0) - 1) from by constructor <;> omega, ?_⟩
        refine hO (c_emits (by omega) (show (rdR (mx [97, 98, fv 79 33, fv 79 34, fv 79 36] f f1)) from hrd1) (show (f1 (fv 79 33) 0) < 400 from by omega) (show opok w9 0 from Or.inr (Or.inr (by omega))) (fun f1_3 (hh_4 :  (rdR (mx [97, 98, fv 79 33] (mx [97, 98, fv 79 33, fv 79 34, fv 79 36] f f1) f1_3))) (hh_5 : (sl (rcd f1_3) 400 (400 + f1_3 (fv 79 33) 0)) = (sl (rcd (mx [97, 98, fv 79 33, fv 79 34, fv 79 36] f f1)) 400 (400 + (f1 (fv 79 33) 0))) ++ [enc w9 0]) (hh_6 : f1_3 (fv 79 33) 0 = (f1 (fv 79 33) 0) + 1) (hh_7 : (dfr (mx [97, 98, fv 79 33, fv 79 34, fv 79 36] f f1)) f1_3) => ?_))
        have he1 := hh_4
        have he2 := hh_5
        have he3 := hh_6
        have he4 := hh_7
        refine ⟨fun (hh_8 : w9 = 9) => ?_, fun (hh_8 : ¬ w9 = 9) => ?_⟩
        · refine Or.inl ⟨show inr ((f1 (fv 79 34) 0) - 1) from by constructor <;> omega, ?_⟩
          have q9 : (wv (mx [97, 98, fv 79 33] (wv f1 (fv 79 36) 0 ((f1 (fv 79 36) 0) - 1)) f1_3) (fv 79 34) 0 ((f1 (fv 79 34) 0) - 1)) (fv 79 36) 0 = f1 (fv 79 36) 0 - 1 := rfl
          refine hB (((wv (mx [97, 98, fv 79 33] (wv f1 (fv 79 36) 0 ((f1 (fv 79 36) 0) - 1)) f1_3) (fv 79 34) 0 ((f1 (fv 79 34) 0) - 1)) (fv 79 36) 0) : Int).toNat ?_ ⟨rfl, (kk9 + 1), (wv (mx [97, 98, fv 79 33] (wv f1 (fv 79 36) 0 ((f1 (fv 79 36) 0) - 1)) f1_3) (fv 79 34) 0 ((f1 (fv 79 34) 0) - 1)), rfl, rfl, (mx_wv rfl (mx_mx rfl (mx_wv rfl rfl))), rfl, ?_, ?_, ?_, ?_, ?_, ?_, ?_⟩
          · omega
          · exact he1
          · show pdI (f 99) (f (fv 79 36) 0) = List.replicate (kk9 + 1) w9 ++ pdI (f 99) (f1 (fv 79 36) 0 - 1)
            rw [hPD, pdI_s (by omega), show f 99 (f1 (fv 79 36) 0 - 1) = w9 by omega, rp_s]
          · rw [show sl (rcd (wv (mx [97, 98, fv 79 33] (wv f1 (fv 79 36) 0 ((f1 (fv 79 36) 0) - 1)) f1_3) (fv 79 34) 0 ((f1 (fv 79 34) 0) - 1))) 400 (400 + (wv (mx [97, 98, fv 79 33] (wv f1 (fv 79 36) 0 ((f1 (fv 79 36) 0) - 1)) f1_3) (fv 79 34) 0 ((f1 (fv 79 34) 0) - 1)) (fv 79 33) 0) = (sl (rcd f1) 400 (400 + f1 (fv 79 33) 0)) ++ [enc w9 0] from he2, hC, rp_e]
          · have q : (wv (mx [97, 98, fv 79 33] (wv f1 (fv 79 36) 0 ((f1 (fv 79 36) 0) - 1)) f1_3) (fv 79 34) 0 ((f1 (fv 79 34) 0) - 1)) (fv 79 33) 0 = _ := he3
            exact ⟨by omega, by show f1 (fv 79 36) 0 - 1 = _; omega, by show 0 ≤ f1 (fv 79 36) 0 - 1; omega⟩
          · refine ⟨fun h => ?_, fun h => ?_⟩
            · first | (exfalso; omega) | (show f1 (fv 79 34) 0 - 1 = _; omega)
            · first | (exfalso; omega) | (show f1 (fv 79 34) 0 = _; exact ho.2 h)
          · exact dfr_t hdf he4
          · omega
        · have q9 : (mx [97, 98, fv 79 33] (wv f1 (fv 79 36) 0 ((f1 (fv 79 36) 0) - 1)) f1_3) (fv 79 36) 0 = f1 (fv 79 36) 0 - 1 := rfl
          refine hB (((mx [97, 98, fv 79 33] (wv f1 (fv 79 36) 0 ((f1 (fv 79 36) 0) - 1)) f1_3) (fv 79 36) 0) : Int).toNat ?_ ⟨rfl, (kk9 + 1), (mx [97, 98, fv 79 33] (wv f1 (fv 79 36) 0 ((f1 (fv 79 36) 0) - 1)) f1_3), rfl, rfl, (mx_mx rfl (mx_wv rfl rfl)), rfl, ?_, ?_, ?_, ?_, ?_, ?_, ?_⟩
          · omega
          · exact he1
          · show pdI (f 99) (f (fv 79 36) 0) = List.replicate (kk9 + 1) w9 ++ pdI (f 99) (f1 (fv 79 36) 0 - 1)
            rw [hPD, pdI_s (by omega), show f 99 (f1 (fv 79 36) 0 - 1) = w9 by omega, rp_s]
          · rw [show sl (rcd (mx [97, 98, fv 79 33] (wv f1 (fv 79 36) 0 ((f1 (fv 79 36) 0) - 1)) f1_3)) 400 (400 + (mx [97, 98, fv 79 33] (wv f1 (fv 79 36) 0 ((f1 (fv 79 36) 0) - 1)) f1_3) (fv 79 33) 0) = (sl (rcd f1) 400 (400 + f1 (fv 79 33) 0)) ++ [enc w9 0] from he2, hC, rp_e]
          · have q : (mx [97, 98, fv 79 33] (wv f1 (fv 79 36) 0 ((f1 (fv 79 36) 0) - 1)) f1_3) (fv 79 33) 0 = _ := he3
            exact ⟨by omega, by show f1 (fv 79 36) 0 - 1 = _; omega, by show 0 ≤ f1 (fv 79 36) 0 - 1; omega⟩
          · refine ⟨fun h => ?_, fun h => ?_⟩
            · first | (exfalso; omega) | (show f1 (fv 79 34) 0 - 1 = _; omega)
            · first | (exfalso; omega) | (show f1 (fv 79 34) 0 = _; exact ho.2 h)
          · exact dfr_t hdf he4
          · omega
      · have hk := k0 kk9 f1 hrd1 hPD hC hz (by first | (rw [show f1 (fv 79 36) 0 = 0 by omega]; show ¬ (0 : Int) = w9; omega) | (rw [pdI_s (by omega)]; show ¬ f 99 (f1 (fv 79 36) 0 - 1) = w9; omega)) ho hdf
        exact hk
    · have hk := k0 kk9 f1 hrd1 hPD hC hz (by first | (rw [show f1 (fv 79 36) 0 = 0 by omega]; show ¬ (0 : Int) = w9; omega) | (rw [pdI_s (by omega)]; show ¬ f 99 (f1 (fv 79 36) 0 - 1) = w9; omega)) ho hdf
      exact hk
  · have hb0 := rdR_b hrd
    refine ⟨((f (fv 79 36) 0) : Int).toNat, ?_, ⟨rfl, 0, f, rfl, rfl, mx_rf, rfl, ?_, ?_, ?_, ?_, ?_, ?_, ?_⟩⟩
    · omega
    · exact hrd
    · rfl
    · exact (List.append_nil _).symm
    · exact ⟨by omega, by omega, hp.1⟩
    · refine ⟨fun h => ?_, fun h => ?_⟩ <;> omega
    · exact dfr_0 rfl rfl
    · omega
end C45
