section C4
variable {d : Nat} {f : iF} {g : iG} {Q : Option iv → iF → iG → Prop}
/-! ===== the reference: the law is run ===== -/
/-- the reference's instructions in the class's numbers -/
def encO (o : Int) : Int := if o ≤ 8 then -(o + 8) else if o = 9 then -19 else -(o + 7)
def enc (o a : Int) : Int := if o = 0 then a else if o = 1 then -1 - a else encO o
def opok (o a : Int) : Prop := (o = 0 ∧ 0 ≤ a ∧ a ≤ 9999) ∨ (o = 1 ∧ 0 ≤ a ∧ a ≤ 8) ∨ (2 ≤ o ∧ o ≤ 11)
def rcd (f : iF) : Int → Int := fun k => enc (f 97 k) (f 98 k)
def lnR (f : iF) (l : Int) : List Int × List Int := (sl (rcd f) (f 95 l) (f 94 l), sl (rcd f) (f 94 l) (f 96 l))
def lwR (f : iF) : Lw := mkl (lnR f) (f (fv 79 27) 0).toNat 0
def lB (f : iF) : Prop := (0 ≤ f (fv 79 27) 0 ∧ f (fv 79 27) 0 ≤ 16) ∧ (∀ l, 0 ≤ l → l < f (fv 79 27) 0 → 0 ≤ f 95 l ∧ f 95 l < f 94 l ∧ f 94 l ≤ f 96 l ∧ f 96 l ≤ 400 ∧ lnok (lnR f l)) ∧ ∀ k, 0 ≤ k → k < 400 → opok (f 97 k) (f 98 k)
theorem rcd_0 {f : iF} {k : Int} (h : f 97 k = 0) : rcd f k = f 98 k := by unfold rcd; rw [h]; rfl
theorem rcd_1 {f : iF} {k : Int} (h : f 97 k = 1) : rcd f k = -1 - f 98 k := by unfold rcd; rw [h]; rfl
theorem rcd_9 {f : iF} {k : Int} (h : f 97 k = 9) : rcd f k = -19 := by unfold rcd; rw [h]; rfl
theorem rcd_o {f : iF} {k : Int} (h : 2 ≤ f 97 k) : rcd f k = encO (f 97 k) := by unfold rcd enc; rw [if_neg (by omega), if_neg (by omega)]
theorem encO_r {o : Int} (h : 2 ≤ o) (h2 : o ≤ 11) : encO o < -9 ∧ -19 ≤ encO o ∧ (encO o = -19 ↔ o = 9) ∧ (encO o = -13 ↔ o = 5) ∧ (encO o = -17 ↔ o = 10) ∧ (encO o = -18 ↔ o = 11) := by
  unfold encO
  split
  · omega
  · split <;> omega
set_option maxRecDepth 100000 in
set_option maxHeartbeats 4000000 in
theorem c_twoOf {w x y : Int} (hd : 1 ≤ d) (hw : 2 ≤ w ∧ w ≤ 11 ∧ ¬ w = 9) (hy : w = 5 → 1 ≤ y) (hx : inr x) (hb : w = 10 ∨ w = 11 → (x = 0 ∨ x = 1) ∧ (y = 0 ∨ y = 1)) (k0 : Q (some (iI (op2 (encO w) x y))) f g) : wq d 42 [iR 79, iI w, iI x, iI y] f g Q := by
  obtain ⟨d, rfl⟩ : ∃ e, d = e + 1 := ⟨d - 1, by omega⟩
  refine i_meth0 rfl rfl (fun O J hO => ?_)
  refine ⟨fun (hh_1 : w = 2) => ?_, fun (hh_1 : ¬ w = 2) => ?_⟩
  · refine Or.inr ?_
    refine Eq.mp (congrArg (fun z => Q (some (iI z)) f g) ?_) k0
    rw [‹w = 2›]; rfl
  · refine ⟨fun (hh_2 : w = 3) => ?_, fun (hh_2 : ¬ w = 3) => ?_⟩
    · refine Or.inr ?_
      refine Eq.mp (congrArg (fun z => Q (some (iI z)) f g) ?_) k0
      rw [‹w = 3›]; rfl
    · refine ⟨fun (hh_3 : w = 4) => ?_, fun (hh_3 : ¬ w = 4) => ?_⟩
      · refine Or.inr ?_
        refine Eq.mp (congrArg (fun z => Q (some (iI z)) f g) ?_) k0
        rw [‹w = 4›]; rfl
      · refine ⟨fun (hh_4 : w = 5) => ?_, fun (hh_4 : ¬ w = 5) => ?_⟩
        · refine ⟨show ¬ (y : Int) = 0 from by omega, show inr (x.tdiv y) from by exact tdiv_le hx (by omega), ?_⟩
          refine Eq.mp (congrArg (fun z => Q (some (iI z)) f g) ?_) k0
          rw [‹w = 5›]; rfl
        · refine ⟨fun (hh_5 : w = 6) => ?_, fun (hh_5 : ¬ w = 6) => ?_⟩
          · refine ⟨fun (hh_6 : x < y) => ?_, fun (hh_6 : ¬ x < y) => ?_⟩
            · refine Eq.mp (congrArg (fun z => Q (some (iI z)) f g) ?_) k0
              rw [‹w = 6›]
              show (if x < y then (1 : Int) else 0) = _
              first | rw [if_pos ‹x < y›] | rw [if_neg ‹¬ x < y›]
            · refine Eq.mp (congrArg (fun z => Q (some (iI z)) f g) ?_) k0
              rw [‹w = 6›]
              show (if x < y then (1 : Int) else 0) = _
              first | rw [if_pos ‹x < y›] | rw [if_neg ‹¬ x < y›]
          · refine ⟨fun (hh_7 : w = 7) => ?_, fun (hh_7 : ¬ w = 7) => ?_⟩
            · refine ⟨fun (hh_8 : x = y) => ?_, fun (hh_8 : ¬ x = y) => ?_⟩
              · refine Eq.mp (congrArg (fun z => Q (some (iI z)) f g) ?_) k0
                rw [‹w = 7›]
                show (if x = y then (1 : Int) else 0) = _
                first | rw [if_pos ‹x = y›] | rw [if_neg ‹¬ x = y›]
              · refine Eq.mp (congrArg (fun z => Q (some (iI z)) f g) ?_) k0
                rw [‹w = 7›]
                show (if x = y then (1 : Int) else 0) = _
                first | rw [if_pos ‹x = y›] | rw [if_neg ‹¬ x = y›]
            · refine ⟨fun (hh_9 : w = 8) => ?_, fun (hh_9 : ¬ w = 8) => ?_⟩
              · refine ⟨fun (hh_10 : y < x) => ?_, fun (hh_10 : ¬ y < x) => ?_⟩
                · refine Eq.mp (congrArg (fun z => Q (some (iI z)) f g) ?_) k0
                  rw [‹w = 8›]
                  show (if y < x then (1 : Int) else 0) = _
                  first | rw [if_pos ‹y < x›] | rw [if_neg ‹¬ y < x›]
                · refine Eq.mp (congrArg (fun z => Q (some (iI z)) f g) ?_) k0
                  rw [‹w = 8›]
                  show (if y < x then (1 : Int) else 0) = _
                  first | rw [if_pos ‹y < x›] | rw [if_neg ‹¬ y < x›]
              · refine ⟨fun (hh_11 : w = 10) => ?_, fun (hh_11 : ¬ w = 10) => ?_⟩
                · refine Or.inl ⟨show inr (x * y) from by constructor <;> (rcases (hb (by omega)).1 with h | h <;> rcases (hb (by omega)).2 with h2 | h2 <;> subst h <;> subst h2 <;> decide), ?_⟩
                  refine Eq.mp (congrArg (fun z => Q (some (iI z)) f g) ?_) k0
                  rw [‹w = 10›]; rfl
                · refine Or.inl ⟨show inr (x + y) from by constructor <;> omega, ?_⟩
                  refine ⟨fun (hh_12 : 0 < (x + y)) => ?_, fun (hh_12 : ¬ 0 < (x + y)) => ?_⟩
                  · refine Eq.mp (congrArg (fun z => Q (some (iI z)) f g) ?_) k0
                    rw [show w = 11 by omega]
                    show (if 0 < x + y then (1 : Int) else 0) = _
                    first | rw [if_pos ‹0 < x + y›] | rw [if_neg ‹¬ 0 < x + y›]
                  · refine Eq.mp (congrArg (fun z => Q (some (iI z)) f g) ?_) k0
                    rw [show w = 11 by omega]
                    show (if 0 < x + y then (1 : Int) else 0) = _
                    first | rw [if_pos ‹0 < x + y›] | rw [if_neg ‹¬ 0 < x + y›]
set_option maxRecDepth 100000 in
set_option maxHeartbeats 4000000 in
theorem c_runs {fr to : Int} (hd : 2 ≤ d) (h0 : 0 ≤ fr ∧ fr < to ∧ to ≤ 400) (hw : ∃ t, tyl (sl (rcd f) fr to) [] = some [t]) (hop : ∀ k, 0 ≤ k → k < 400 → opok (f 97 k) (f 98 k)) (hfa : faok (f 100)) (k0 : ∀ f1 : iF, Q (some (iI (hdv (ev (f 100) (sl (rcd f) fr to) [])))) (mx [101] f f1) g) : wq d 43 [iR 79, iI fr, iI to] f g Q := by
  obtain ⟨d, rfl⟩ : ∃ e, d = e + 1 := ⟨d - 1, by omega⟩
  refine i_meth [(4, 5)] (fun n j lv st f' g' => (j = 4 ∧ ∃ (top : Int) (k : Int) (vs : List Int) (ts : List Int) (f1 : iF), lv = [some (iR 79), some (iI fr), some (iI to), some (iI top), some (iI k)] ∧ st = [] ∧ f' = (mx [101] f f1) ∧ g = g' ∧ (rst (f 100) (rcd f) fr to k (f1 101) top vs ts) ∧ (n : Int) = to - k)) 400 (by omega) rfl rfl (fun n j lv st f' g' hn hI O J hO hF hB => ?_) (fun hvs hin O J hO hF => ?_)
  · obtain ⟨rfl, top, k, vs, ts, f1, rfl, rfl, rfl, rfl, hr, hm⟩ := hI
    obtain ⟨tw, hw⟩ := hw
    have hr1 := hr.1
    have hr2 := hr.2.1
    refine ⟨fun (hh_1 : k < to) => ?_, fun (hh_1 : ¬ k < to) => ?_⟩
    · obtain ⟨ts2, ht⟩ := rst_t hr (by omega) hw
      have hopk := hop k (by omega) (by omega)
      unfold opok at hopk
      refine ⟨show 0 ≤ (k : Int) ∧ k < 800 from by omega, ?_⟩
      refine ⟨fun (hh_2 : f 97 k = 0) => ?_, fun (hh_2 : ¬ f 97 k = 0) => ?_⟩
      · refine ⟨show 0 ≤ (k : Int) ∧ k < 800 from by omega, ?_⟩
        refine ⟨fun _ => ?_, fun h => absurd hh_2 h⟩
        have hc := rcd_0 hh_2
        obtain ⟨ht0, ht1, hnx⟩ := rst_num hfa hr (by omega) ht (by omega)
        refine ⟨show 0 ≤ (k : Int) ∧ k < 800 from by omega, ?_⟩
        refine ⟨show 0 ≤ (top : Int) ∧ top < 420 from by omega, ?_⟩
        refine Or.inl ⟨show inr (top + 1) from by constructor <;> omega, ?_⟩
        refine ⟨show inr (k + 1) from by constructor <;> omega, ?_⟩
        refine hB (to - (k + 1) : Int).toNat ?_ ⟨rfl, (top + 1), (k + 1), (stp (f 100) (rcd f k) vs), ts2, (wv f1 101 top (f 98 k)), rfl, rfl, (mx_wv rfl rfl), rfl, ?_, ?_⟩
        · omega
        · exact hnx _ (by rw [wv_s, hc]) (fun j h0 h1 => wv_k (by omega))
        · omega
      · refine ⟨show 0 ≤ (k : Int) ∧ k < 800 from by omega, ?_⟩
        refine ⟨fun (hh_3 : f 97 k = 1) => ?_, fun (hh_3 : ¬ f 97 k = 1) => ?_⟩
        · refine ⟨show 0 ≤ (k : Int) ∧ k < 800 from by omega, ?_⟩
          refine ⟨fun h => absurd h hh_2, fun _ => ?_⟩
          have hc := rcd_1 (show f 97 k = 1 by omega)
          obtain ⟨ht0, ht1, hnx⟩ := rst_ask hfa hr (by omega) ht (by omega) (by omega)
          rw [show -1 - rcd f k = f 98 k by omega] at hnx
          refine ⟨show 0 ≤ (k : Int) ∧ k < 800 from by omega, ?_⟩
          refine ⟨show 0 ≤ (f 98 k : Int) ∧ f 98 k < 9 from by omega, ?_⟩
          refine ⟨show 0 ≤ (top : Int) ∧ top < 420 from by omega, ?_⟩
          refine Or.inl ⟨show inr (top + 1) from by constructor <;> omega, ?_⟩
          refine ⟨show inr (k + 1) from by constructor <;> omega, ?_⟩
          refine hB (to - (k + 1) : Int).toNat ?_ ⟨rfl, (top + 1), (k + 1), (stp (f 100) (rcd f k) vs), ts2, (wv f1 101 top (f 100 (f 98 k))), rfl, rfl, (mx_wv rfl rfl), rfl, ?_, ?_⟩
          · omega
          · exact hnx _ wv_s (fun j h0 h1 => wv_k (by omega))
          · omega
        · refine ⟨show 0 ≤ (k : Int) ∧ k < 800 from by omega, ?_⟩
          refine ⟨fun (hh_4 : f 97 k = 9) => ?_, fun (hh_4 : ¬ f 97 k = 9) => ?_⟩
          · have hc := rcd_9 hh_4
            obtain ⟨ht0, ht1, hb, hnx⟩ := rst_not hfa hr (by omega) ht hc
            refine Or.inl ⟨show inr (top - 1) from by constructor <;> omega, ?_⟩
            refine Or.inl ⟨show inr (top - 1) from by constructor <;> omega, ?_⟩
            refine ⟨show 0 ≤ ((top - 1) : Int) ∧ (top - 1) < 420 from by omega, ?_⟩
            refine Or.inl ⟨show inr (1 - (f1 101 (top - 1))) from by constructor <;> omega, ?_⟩
            refine ⟨show 0 ≤ ((top - 1) : Int) ∧ (top - 1) < 420 from by omega, ?_⟩
            refine ⟨show inr (k + 1) from by constructor <;> omega, ?_⟩
            refine hB (to - (k + 1) : Int).toNat ?_ ⟨rfl, top, (k + 1), (stp (f 100) (rcd f k) vs), ts2, (wv f1 101 (top - 1) (1 - (f1 101 (top - 1)))), rfl, rfl, (mx_wv rfl rfl), rfl, ?_, ?_⟩
            · omega
            · exact hnx _ wv_s (fun j h0 h1 => wv_k (by omega))
            · omega
          · have hc := rcd_o (f := f) (k := k) (by omega)
            have her := encO_r (o := f 97 k) (by omega) (by omega)
            obtain ⟨ht0, ht1, hix, hiy, -, h13, h17, hnx⟩ := rst_two hfa hr (by omega) ht (by omega) (by omega)
            refine Or.inl ⟨show inr (top - 1) from by constructor <;> omega, ?_⟩
            refine Or.inl ⟨show inr ((top - 1) - 1) from by constructor <;> omega, ?_⟩
            refine ⟨show 0 ≤ (k : Int) ∧ k < 800 from by omega, ?_⟩
            refine Or.inl ⟨show inr ((top - 1) - 1) from by constructor <;> omega, ?_⟩
            refine ⟨show 0 ≤ (((top - 1) - 1) : Int) ∧ ((top - 1) - 1) < 420 from by omega, ?_⟩
            refine ⟨show 0 ≤ ((top - 1) : Int) ∧ (top - 1) < 420 from by omega, ?_⟩
            refine hO (c_twoOf (by omega) (show 2 ≤ (f 97 k) ∧ (f 97 k) ≤ 11 ∧ ¬ (f 97 k) = 9 from by omega) (show (f 97 k) = 5 → 1 ≤ (f1 101 (top - 1)) from by intro h; exact h13 (by omega)) (show inr (f1 101 ((top - 1) - 1)) from hix) (show (f 97 k) = 10 ∨ (f 97 k) = 11 → ((f1 101 ((top - 1) - 1)) = 0 ∨ (f1 101 ((top - 1) - 1)) = 1) ∧ ((f1 101 (top - 1)) = 0 ∨ (f1 101 (top - 1)) = 1) from by intro h; exact h17 (by omega)) ?_)
            refine ⟨show 0 ≤ (((top - 1) - 1) : Int) ∧ ((top - 1) - 1) < 420 from by omega, ?_⟩
            refine ⟨show inr (k + 1) from by constructor <;> omega, ?_⟩
            refine hB (to - (k + 1) : Int).toNat ?_ ⟨rfl, (top - 1), (k + 1), (stp (f 100) (rcd f k) vs), ts2, (wv f1 101 ((top - 1) - 1) (op2 (encO (f 97 k)) (f1 101 ((top - 1) - 1)) (f1 101 (top - 1)))), rfl, rfl, (mx_wv rfl rfl), rfl, ?_, ?_⟩
            · omega
            · exact hnx _ (by rw [wv_s, hc]) (fun j h0 h1 => wv_k (by omega))
            · omega
    · refine ⟨show 0 ≤ (0 : Int) ∧ 0 < 420 from by decide, ?_⟩
      have he := (rst_end hr (by omega) hw).2
      rw [← he] at k0
      exact k0 f1
  · obtain ⟨tw, hw⟩ := hw
    refine hF (to - fr : Int).toNat ?_ ⟨rfl, 0, fr, [], [], f, rfl, rfl, mx_rf, rfl, ?_, ?_⟩
    · omega
    · exact rst_0 (by omega)
    · omega
theorem lnR_ne {f : iF} {l : Int} (h : f 94 l < f 96 l) : ¬ (lnR f l).2 = [] := by
  show ¬ sl (rcd f) (f 94 l) (f 96 l) = []
  rw [sl_cons h]
  exact List.cons_ne_nil _ _
set_option maxRecDepth 100000 in
set_option maxHeartbeats 4000000 in
theorem c_isSo {l : Int} (hd : 3 ≤ d) (hl0 : 0 ≤ l) (hl1 : l < (f (fv 79 27) 0)) (hl : (lB f)) (hfa : faok (f 100)) (k0 : ∀ f1 : iF, (((lnR f) l).2 = [] ∨ ¬ hdv (ev (f 100) ((lnR f) l).2 []) = 0) → Q (some (iI 1)) (mx [101] f f1) g) (k1 : ∀ f1 : iF, (¬ (((lnR f) l).2 = [] ∨ ¬ hdv (ev (f 100) ((lnR f) l).2 []) = 0)) → Q (some (iI 0)) (mx [101] f f1) g) : wq d 44 [iR 79, iI l] f g Q := by
  obtain ⟨d, rfl⟩ : ∃ e, d = e + 1 := ⟨d - 1, by omega⟩
  refine i_meth0 rfl rfl (fun O J hO => ?_)
  have h1 := hl.1
  obtain ⟨h2, h3, h4, h5, h6, h7⟩ := hl.2.1 l hl0 hl1
  refine ⟨show 0 ≤ (l : Int) ∧ l < 32 from by omega, ?_⟩
  refine ⟨show 0 ≤ (l : Int) ∧ l < 32 from by omega, ?_⟩
  refine ⟨fun (hh_1 : f 94 l = f 96 l) => ?_, fun (hh_1 : ¬ f 94 l = f 96 l) => ?_⟩
  · refine ⟨show (1 : Int) = 0 ∨ 1 = 1 from by decide, ?_⟩
    rw [show f = mx [101] f f from mx_rf]
    exact k0 f (by exact Or.inl (sl_nil (by omega)))
  · have hlt : f 94 l < f 96 l := by omega
    have hty : tyl (sl (rcd f) (f 94 l) (f 96 l)) [] = some [3] := by rcases h7 with h7 | h7; exact absurd h7 (lnR_ne hlt); exact h7
    refine ⟨show 0 ≤ (l : Int) ∧ l < 32 from by omega, ?_⟩
    refine ⟨show 0 ≤ (l : Int) ∧ l < 32 from by omega, ?_⟩
    refine hO (c_runs (by omega) (show 0 ≤ (f 94 l) ∧ (f 94 l) < (f 96 l) ∧ (f 96 l) ≤ 400 from by omega) (show ∃ t, tyl (sl (rcd f) (f 94 l) (f 96 l)) [] = some [t] from ⟨3, hty⟩) (show ∀ k, 0 ≤ k → k < 400 → opok (f 97 k) (f 98 k) from hl.2.2) (show faok (f 100) from hfa) (fun f1_2 => ?_))
    refine ⟨fun (hh_3 : hdv (ev (f 100) (sl (rcd f) (f 94 l) (f 96 l)) []) = 0) => ?_, fun (hh_3 : ¬ hdv (ev (f 100) (sl (rcd f) (f 94 l) (f 96 l)) []) = 0) => ?_⟩
    · refine ⟨show (0 : Int) = 0 ∨ 0 = 1 from by decide, ?_⟩
      exact k1 f1_2 (by exact fun h => by rcases h with h | h; exact lnR_ne hlt h; exact h (by assumption))
    · refine ⟨show (1 : Int) = 0 ∨ 1 = 1 from by decide, ?_⟩
      exact k0 f1_2 (by exact Or.inr (by assumption))
end C4
