section C26
variable {d : Nat} {f : iF} {g : iG} {Q : Option iv → iF → iG → Prop}
/-! ===== the class: printing ===== -/
/-- purses, printed, lines, gaps, state as the reference has them -/
def nwC (f : iF) : Int → Int := fun k => if k < 8 then f 2 k else if k < 37 then f 9 (k - 8) else if k = 37 then f (fv 1 13) 0 else if k = 38 then f (fv 1 14) 0 else f (fv 1 17) 0
theorem nwC_a {f : iF} {a : Int} (h : a < 8) : nwC f a = f 2 a := by unfold nwC; rw [if_pos h]
theorem nwC_s {f : iF} {s : Int} (h0 : 0 ≤ s) (h1 : s < 29) : nwC f (8 + s) = f 9 s := by unfold nwC; rw [if_neg (by omega), if_pos (by omega), show 8 + s - 8 = s by omega]
theorem nwC_37 {f : iF} : nwC f 37 = f (fv 1 13) 0 := rfl
theorem nwC_38 {f : iF} : nwC f 38 = f (fv 1 14) 0 := rfl
theorem nwC_39 {f : iF} : nwC f 39 = f (fv 1 17) 0 := rfl
theorem pur_mm {was pay : Int} (h : was ≤ 99999) (hp : 0 ≤ pay) : was + min pay (99999 - was) = pur was pay := by unfold pur; split <;> omega
set_option maxRecDepth 100000 in
set_option maxHeartbeats 4000000 in
theorem k_draw {m : Int} (hd : 1 ≤ d) (hm : m = 1000) (k0 : Q (some (iI (drw (nxt (f (fv 1 17) 0)) m))) (wv f (fv 1 17) 0 (nxt (f (fv 1 17) 0))) g) : wq d 102 [iR 1, iI m] f g Q := by
  obtain ⟨d, rfl⟩ : ∃ e, d = e + 1 := ⟨d - 1, by omega⟩
  refine i_meth0 rfl rfl (fun O J hO => ?_)
  refine Or.inr ?_
  refine Or.inr ?_
  refine ⟨fun _ => ?_, fun h => absurd (show 0 < m from by omega) h⟩
  refine ⟨show ¬ (m : Int) = 0 from by omega, show inr ((b_ushr (w32 ((w32 (1664525 * (f (fv 1 17) 0))) + 1013904223)) 8).tmod m) from by (have := drw_r (nxt (f (fv 1 17) 0)); unfold drw nxt at this; rw [hm]; constructor <;> omega), ?_⟩
  exact k0
set_option maxRecDepth 100000 in
set_option maxHeartbeats 4000000 in
theorem k_least {a ot : Int} (hd : 1 ≤ d) (hx : ∃ t, 0 ≤ t ∧ t < 29 ∧ (f 7 t) = a) (k0 : Q (some (iI (lsI (f 7) a))) f g) : wq d 106 [iR 1, iI a, iI ot] f g Q := by
  obtain ⟨d, rfl⟩ : ∃ e, d = e + 1 := ⟨d - 1, by omega⟩
  refine i_meth [(2, 4)] (fun n j lv st f' g' => (j = 2 ∧ ∃ (s : Int), lv = [some (iR 1), some (iI a), some (iI ot), some (iI s)] ∧ st = [] ∧ f = f' ∧ g = g' ∧ (0 ≤ s ∧ s ≤ 29) ∧ (lsI (f 7) a = lsF (f 7) a (29 - s).toNat s) ∧ (∃ t, s ≤ t ∧ t < 29 ∧ f 7 t = a) ∧ (n : Int) = 29 - s)) 30 (by omega) rfl rfl (fun n j lv st f' g' hn hI O J hO hF hB => ?_) (fun hvs hin O J hO hF => ?_)
  · obtain ⟨rfl, s, rfl, rfl, rfl, rfl, hs, hl, ht, hm⟩ := hI
    refine ⟨fun (hh_1 : s < 29) => ?_, fun (hh_1 : ¬ s < 29) => ?_⟩
    · refine ⟨show 0 ≤ (s : Int) ∧ s < 29 from by omega, ?_⟩
      refine ⟨fun (hh_2 : f 7 s = a) => ?_, fun (hh_2 : ¬ f 7 s = a) => ?_⟩
      · rw [show lsI (f 7) a = s from by rw [hl, show (29 - s).toNat = (29 - (s + 1)).toNat + 1 by omega, lsF_t ‹_›]] at k0
        exact k0
      · refine ⟨show inr (s + 1) from by constructor <;> omega, ?_⟩
        refine hB (29 - (s + 1) : Int).toNat ?_ ⟨rfl, (s + 1), rfl, rfl, rfl, rfl, ?_, ?_, ?_, ?_⟩
        · omega
        · omega
        · rw [hl, show (29 - s).toNat = (29 - (s + 1)).toNat + 1 by omega, lsF_s ‹_›]
        · obtain ⟨t, t0, t1, t2⟩ := ht
          have : ¬ s = t := fun h => ‹¬ f 7 s = a› (by rw [h]; exact t2)
          exact ⟨t, by omega, t1, t2⟩
        · omega
    · exfalso
      obtain ⟨t, t0, t1, t2⟩ := ht
      omega
  · refine hF (29 - 0 : Int).toNat ?_ ⟨rfl, 0, rfl, rfl, rfl, rfl, ?_, ?_, ?_, ?_⟩
    · omega
    · omega
    · rfl
    · exact hx
    · omega
set_option maxRecDepth 100000 in
set_option maxHeartbeats 4000000 in
theorem k_book {s pl pay : Int} (hd : 2 ≤ d) (hs : 0 ≤ s ∧ s < 29) (hcb : (coB f)) (hso : 0 ≤ (f 7 s)) (hpu : ∀ a, 0 ≤ a → a < 8 → 0 ≤ (f 2 a) ∧ (f 2 a) ≤ 99999) (hpy : 0 ≤ pay ∧ pay ≤ 99) (hro : 0 ≤ (f (fv 1 13) 0) ∧ (f (fv 1 13) 0) ≤ 200) (k0 : ∀ f1 : iF, (∀ a, 0 ≤ a → a < 8 → f1 2 a = bkN (f 7) (nwC f) s pay a) → (∀ t, 0 ≤ t → t < 29 → f1 9 t = bkN (f 7) (nwC f) s pay (8 + t)) → (f1 (fv 1 13) 0 = bkN (f 7) (nwC f) s pay 37) → (f1 19 = bkR (f 7) (nwC f) (f 19) (f (fv 1 15) 0) s pl pay) → Q none (mx [2, 9, 19, fv 1 13] f f1) g) : wq d 108 [iR 1, iI s, iI pl, iI pay] f g Q := by
  obtain ⟨d, rfl⟩ : ∃ e, d = e + 1 := ⟨d - 1, by omega⟩
  refine i_meth0 rfl rfl (fun O J hO => ?_)
  have hcs := hcb.2 s (by omega) (by omega)
  have hcb1 := hcb.1
  have hpw := hpu (f 7 s) (by omega) (by omega)
  refine ⟨show 0 ≤ (s : Int) ∧ s < 29 from by omega, ?_⟩
  refine hO (k_has (by omega) (fun (hh_1 : 0 ≤ (f 7 s)) (hh_2 : (f 7 s) < (f (fv 1 0) 0)) (hh_3 : (f 7 s) < 8) => ?_) (fun (hh_4 : ¬ (0 ≤ (f 7 s) ∧ (f 7 s) < (f (fv 1 0) 0) ∧ (f 7 s) < 8)) => ?_))
  · refine ⟨fun h => absurd (show (1 : Int) = 0 from h) (by decide), fun _ => ?_⟩
    refine ⟨show 0 ≤ (f 7 s : Int) ∧ f 7 s < 8 from by omega, ?_⟩
    refine Or.inl ⟨show inr (99999 - (f 2 (f 7 s))) from by constructor <;> omega, ?_⟩
    refine ⟨show 0 ≤ (f 7 s : Int) ∧ f 7 s < 8 from by omega, ?_⟩
    refine Or.inl ⟨show inr ((f 2 (f 7 s)) + (min pay (99999 - (f 2 (f 7 s))))) from by constructor <;> omega, ?_⟩
    refine ⟨show 0 ≤ (f 7 s : Int) ∧ f 7 s < 8 from by omega, ?_⟩
    refine ⟨show 0 ≤ (s : Int) ∧ s < 29 from by omega, ?_⟩
    refine Or.inr ?_
    refine ⟨show 0 ≤ (s : Int) ∧ s < 29 from by omega, ?_⟩
    refine ⟨fun (hh_5 : f (fv 1 13) 0 < 200) => ?_, fun (hh_5 : ¬ f (fv 1 13) 0 < 200) => ?_⟩
    · refine Or.inl ⟨show inr ((f (fv 1 13) 0) * 5) from by constructor <;> omega, ?_⟩
      refine ⟨show 0 ≤ (((f (fv 1 13) 0) * 5) : Int) ∧ ((f (fv 1 13) 0) * 5) < 1000 from by omega, ?_⟩
      refine Or.inl ⟨show inr (((f (fv 1 13) 0) * 5) + 1) from by constructor <;> omega, ?_⟩
      refine ⟨show 0 ≤ ((((f (fv 1 13) 0) * 5) + 1) : Int) ∧ (((f (fv 1 13) 0) * 5) + 1) < 1000 from by omega, ?_⟩
      refine Or.inl ⟨show inr (((f (fv 1 13) 0) * 5) + 2) from by constructor <;> omega, ?_⟩
      refine ⟨show 0 ≤ ((((f (fv 1 13) 0) * 5) + 2) : Int) ∧ (((f (fv 1 13) 0) * 5) + 2) < 1000 from by omega, ?_⟩
      refine Or.inl ⟨show inr (((f (fv 1 13) 0) * 5) + 3) from by constructor <;> omega, ?_⟩
      refine ⟨show 0 ≤ ((((f (fv 1 13) 0) * 5) + 3) : Int) ∧ (((f (fv 1 13) 0) * 5) + 3) < 1000 from by omega, ?_⟩
      refine Or.inl ⟨show inr (((f (fv 1 13) 0) * 5) + 4) from by constructor <;> omega, ?_⟩
      refine ⟨show 0 ≤ ((((f (fv 1 13) 0) * 5) + 4) : Int) ∧ (((f (fv 1 13) 0) * 5) + 4) < 1000 from by omega, ?_⟩
      refine Or.inl ⟨show inr ((f (fv 1 13) 0) + 1) from by constructor <;> omega, ?_⟩
      have ea0 : (wv f 2 (f 7 s) ((f 2 (f 7 s)) + (min pay (99999 - (f 2 (f 7 s)))))) 2 = up (f 2) (f 7 s) ((f 2 (f 7 s)) + (min pay (99999 - (f 2 (f 7 s))))) := wv_up
      have eb0 : (wv (wv f 2 (f 7 s) ((f 2 (f 7 s)) + (min pay (99999 - (f 2 (f 7 s)))))) 9 s (w32 ((f 9 s) + 1))) 9 = up (f 9) s (w32 ((f 9 s) + 1)) := wv_up
      have ec0 : (wv (wv (wv f 2 (f 7 s) ((f 2 (f 7 s)) + (min pay (99999 - (f 2 (f 7 s)))))) 9 s (w32 ((f 9 s) + 1))) 19 ((f (fv 1 13) 0) * 5) s) 19 = up (f 19) ((f (fv 1 13) 0) * 5) s := wv_up
      have ec1 : (wv (wv (wv (wv f 2 (f 7 s) ((f 2 (f 7 s)) + (min pay (99999 - (f 2 (f 7 s)))))) 9 s (w32 ((f 9 s) + 1))) 19 ((f (fv 1 13) 0) * 5) s) 19 (((f (fv 1 13) 0) * 5) + 1) (f (fv 1 15) 0)) 19 = up ((wv (wv (wv f 2 (f 7 s) ((f 2 (f 7 s)) + (min pay (99999 - (f 2 (f 7 s)))))) 9 s (w32 ((f 9 s) + 1))) 19 ((f (fv 1 13) 0) * 5) s) 19) (((f (fv 1 13) 0) * 5) + 1) (f (fv 1 15) 0) := wv_up
      have ec2 : (wv (wv (wv (wv (wv f 2 (f 7 s) ((f 2 (f 7 s)) + (min pay (99999 - (f 2 (f 7 s)))))) 9 s (w32 ((f 9 s) + 1))) 19 ((f (fv 1 13) 0) * 5) s) 19 (((f (fv 1 13) 0) * 5) + 1) (f (fv 1 15) 0)) 19 (((f (fv 1 13) 0) * 5) + 2) pl) 19 = up ((wv (wv (wv (wv f 2 (f 7 s) ((f 2 (f 7 s)) + (min pay (99999 - (f 2 (f 7 s)))))) 9 s (w32 ((f 9 s) + 1))) 19 ((f (fv 1 13) 0) * 5) s) 19 (((f (fv 1 13) 0) * 5) + 1) (f (fv 1 15) 0)) 19) (((f (fv 1 13) 0) * 5) + 2) pl := wv_up
      have ec3 : (wv (wv (wv (wv (wv (wv f 2 (f 7 s) ((f 2 (f 7 s)) + (min pay (99999 - (f 2 (f 7 s)))))) 9 s (w32 ((f 9 s) + 1))) 19 ((f (fv 1 13) 0) * 5) s) 19 (((f (fv 1 13) 0) * 5) + 1) (f (fv 1 15) 0)) 19 (((f (fv 1 13) 0) * 5) + 2) pl) 19 (((f (fv 1 13) 0) * 5) + 3) (f 7 s)) 19 = up ((wv (wv (wv (wv (wv f 2 (f 7 s) ((f 2 (f 7 s)) + (min pay (99999 - (f 2 (f 7 s)))))) 9 s (w32 ((f 9 s) + 1))) 19 ((f (fv 1 13) 0) * 5) s) 19 (((f (fv 1 13) 0) * 5) + 1) (f (fv 1 15) 0)) 19 (((f (fv 1 13) 0) * 5) + 2) pl) 19) (((f (fv 1 13) 0) * 5) + 3) (f 7 s) := wv_up
      have ec4 : (wv (wv (wv (wv (wv (wv (wv f 2 (f 7 s) ((f 2 (f 7 s)) + (min pay (99999 - (f 2 (f 7 s)))))) 9 s (w32 ((f 9 s) + 1))) 19 ((f (fv 1 13) 0) * 5) s) 19 (((f (fv 1 13) 0) * 5) + 1) (f (fv 1 15) 0)) 19 (((f (fv 1 13) 0) * 5) + 2) pl) 19 (((f (fv 1 13) 0) * 5) + 3) (f 7 s)) 19 (((f (fv 1 13) 0) * 5) + 4) (min pay (99999 - (f 2 (f 7 s))))) 19 = up ((wv (wv (wv (wv (wv (wv f 2 (f 7 s) ((f 2 (f 7 s)) + (min pay (99999 - (f 2 (f 7 s)))))) 9 s (w32 ((f 9 s) + 1))) 19 ((f (fv 1 13) 0) * 5) s) 19 (((f (fv 1 13) 0) * 5) + 1) (f (fv 1 15) 0)) 19 (((f (fv 1 13) 0) * 5) + 2) pl) 19 (((f (fv 1 13) 0) * 5) + 3) (f 7 s)) 19) (((f (fv 1 13) 0) * 5) + 4) (min pay (99999 - (f 2 (f 7 s)))) := wv_up
      have hk := k0 (wv (wv (wv (wv (wv (wv (wv (wv f 2 (f 7 s) ((f 2 (f 7 s)) + (min pay (99999 - (f 2 (f 7 s)))))) 9 s (w32 ((f 9 s) + 1))) 19 ((f (fv 1 13) 0) * 5) s) 19 (((f (fv 1 13) 0) * 5) + 1) (f (fv 1 15) 0)) 19 (((f (fv 1 13) 0) * 5) + 2) pl) 19 (((f (fv 1 13) 0) * 5) + 3) (f 7 s)) 19 (((f (fv 1 13) 0) * 5) + 4) (min pay (99999 - (f 2 (f 7 s))))) (fv 1 13) 0 ((f (fv 1 13) 0) + 1)) (fun a h0 h1 => by
        unfold bkN
        rw [up_n (by omega), up_n (by omega)]
        by_cases e : a = f 7 s
        · rw [e, up_s, nwC_a (by omega), show (wv (wv (wv (wv (wv (wv (wv (wv f 2 (f 7 s) ((f 2 (f 7 s)) + (min pay (99999 - (f 2 (f 7 s)))))) 9 s (w32 ((f 9 s) + 1))) 19 ((f (fv 1 13) 0) * 5) s) 19 (((f (fv 1 13) 0) * 5) + 1) (f (fv 1 15) 0)) 19 (((f (fv 1 13) 0) * 5) + 2) pl) 19 (((f (fv 1 13) 0) * 5) + 3) (f 7 s)) 19 (((f (fv 1 13) 0) * 5) + 4) (min pay (99999 - (f 2 (f 7 s))))) (fv 1 13) 0 ((f (fv 1 13) 0) + 1)) 2 = _ from ea0, up_s, pur_mm (by omega) (by omega)]
        · rw [up_n e, nwC_a h1, show (wv (wv (wv (wv (wv (wv (wv (wv f 2 (f 7 s) ((f 2 (f 7 s)) + (min pay (99999 - (f 2 (f 7 s)))))) 9 s (w32 ((f 9 s) + 1))) 19 ((f (fv 1 13) 0) * 5) s) 19 (((f (fv 1 13) 0) * 5) + 1) (f (fv 1 15) 0)) 19 (((f (fv 1 13) 0) * 5) + 2) pl) 19 (((f (fv 1 13) 0) * 5) + 3) (f 7 s)) 19 (((f (fv 1 13) 0) * 5) + 4) (min pay (99999 - (f 2 (f 7 s))))) (fv 1 13) 0 ((f (fv 1 13) 0) + 1)) 2 = _ from ea0, up_n e]) (fun t h0 h1 => by
        unfold bkN
        rw [up_n (by omega)]
        by_cases e : t = s
        · rw [e, up_s, nwC_s hs.1 hs.2, show (wv (wv (wv (wv (wv (wv (wv (wv f 2 (f 7 s) ((f 2 (f 7 s)) + (min pay (99999 - (f 2 (f 7 s)))))) 9 s (w32 ((f 9 s) + 1))) 19 ((f (fv 1 13) 0) * 5) s) 19 (((f (fv 1 13) 0) * 5) + 1) (f (fv 1 15) 0)) 19 (((f (fv 1 13) 0) * 5) + 2) pl) 19 (((f (fv 1 13) 0) * 5) + 3) (f 7 s)) 19 (((f (fv 1 13) 0) * 5) + 4) (min pay (99999 - (f 2 (f 7 s))))) (fv 1 13) 0 ((f (fv 1 13) 0) + 1)) 9 = _ from eb0, up_s]
        · rw [up_n (by omega), up_n (by omega), nwC_s h0 h1, show (wv (wv (wv (wv (wv (wv (wv (wv f 2 (f 7 s) ((f 2 (f 7 s)) + (min pay (99999 - (f 2 (f 7 s)))))) 9 s (w32 ((f 9 s) + 1))) 19 ((f (fv 1 13) 0) * 5) s) 19 (((f (fv 1 13) 0) * 5) + 1) (f (fv 1 15) 0)) 19 (((f (fv 1 13) 0) * 5) + 2) pl) 19 (((f (fv 1 13) 0) * 5) + 3) (f 7 s)) 19 (((f (fv 1 13) 0) * 5) + 4) (min pay (99999 - (f 2 (f 7 s))))) (fv 1 13) 0 ((f (fv 1 13) 0) + 1)) 9 = _ from eb0, up_n e]) (by show f (fv 1 13) 0 + 1 = _; unfold bkN; rw [up_s, nwC_37, if_neg (by omega)]) (by
        rw [show (wv (wv (wv (wv (wv (wv (wv (wv f 2 (f 7 s) ((f 2 (f 7 s)) + (min pay (99999 - (f 2 (f 7 s)))))) 9 s (w32 ((f 9 s) + 1))) 19 ((f (fv 1 13) 0) * 5) s) 19 (((f (fv 1 13) 0) * 5) + 1) (f (fv 1 15) 0)) 19 (((f (fv 1 13) 0) * 5) + 2) pl) 19 (((f (fv 1 13) 0) * 5) + 3) (f 7 s)) 19 (((f (fv 1 13) 0) * 5) + 4) (min pay (99999 - (f 2 (f 7 s))))) (fv 1 13) 0 ((f (fv 1 13) 0) + 1)) 19 = _ from ec4, ec3, ec2, ec1, ec0]
        unfold bkR
        rw [nwC_37, if_neg (by omega), Int.mul_comm 5, nwC_a (by omega), ← pur_mm (by omega) (by omega), show f 2 (f 7 s) + min pay (99999 - f 2 (f 7 s)) - f 2 (f 7 s) = min pay (99999 - f 2 (f 7 s)) by omega])
      rw [show mx [2, 9, 19, fv 1 13] f (wv (wv (wv (wv (wv (wv (wv (wv f 2 (f 7 s) ((f 2 (f 7 s)) + (min pay (99999 - (f 2 (f 7 s)))))) 9 s (w32 ((f 9 s) + 1))) 19 ((f (fv 1 13) 0) * 5) s) 19 (((f (fv 1 13) 0) * 5) + 1) (f (fv 1 15) 0)) 19 (((f (fv 1 13) 0) * 5) + 2) pl) 19 (((f (fv 1 13) 0) * 5) + 3) (f 7 s)) 19 (((f (fv 1 13) 0) * 5) + 4) (min pay (99999 - (f 2 (f 7 s))))) (fv 1 13) 0 ((f (fv 1 13) 0) + 1)) = (wv (wv (wv (wv (wv (wv (wv (wv f 2 (f 7 s) ((f 2 (f 7 s)) + (min pay (99999 - (f 2 (f 7 s)))))) 9 s (w32 ((f 9 s) + 1))) 19 ((f (fv 1 13) 0) * 5) s) 19 (((f (fv 1 13) 0) * 5) + 1) (f (fv 1 15) 0)) 19 (((f (fv 1 13) 0) * 5) + 2) pl) 19 (((f (fv 1 13) 0) * 5) + 3) (f 7 s)) 19 (((f (fv 1 13) 0) * 5) + 4) (min pay (99999 - (f 2 (f 7 s))))) (fv 1 13) 0 ((f (fv 1 13) 0) + 1)) from ((mx_wv rfl (mx_wv rfl (mx_wv rfl (mx_wv rfl (mx_wv rfl (mx_wv rfl (mx_wv rfl (mx_wv rfl mx_rf))))))))).symm] at hk
      exact hk
    · have ea0 : (wv f 2 (f 7 s) ((f 2 (f 7 s)) + (min pay (99999 - (f 2 (f 7 s)))))) 2 = up (f 2) (f 7 s) ((f 2 (f 7 s)) + (min pay (99999 - (f 2 (f 7 s))))) := wv_up
      have eb0 : (wv (wv f 2 (f 7 s) ((f 2 (f 7 s)) + (min pay (99999 - (f 2 (f 7 s)))))) 9 s (w32 ((f 9 s) + 1))) 9 = up (f 9) s (w32 ((f 9 s) + 1)) := wv_up
      have hk := k0 (wv (wv f 2 (f 7 s) ((f 2 (f 7 s)) + (min pay (99999 - (f 2 (f 7 s)))))) 9 s (w32 ((f 9 s) + 1))) (fun a h0 h1 => by
        unfold bkN
        rw [up_n (by omega), up_n (by omega)]
        by_cases e : a = f 7 s
        · rw [e, up_s, nwC_a (by omega), show (wv (wv f 2 (f 7 s) ((f 2 (f 7 s)) + (min pay (99999 - (f 2 (f 7 s)))))) 9 s (w32 ((f 9 s) + 1))) 2 = _ from ea0, up_s, pur_mm (by omega) (by omega)]
        · rw [up_n e, nwC_a h1, show (wv (wv f 2 (f 7 s) ((f 2 (f 7 s)) + (min pay (99999 - (f 2 (f 7 s)))))) 9 s (w32 ((f 9 s) + 1))) 2 = _ from ea0, up_n e]) (fun t h0 h1 => by
        unfold bkN
        rw [up_n (by omega)]
        by_cases e : t = s
        · rw [e, up_s, nwC_s hs.1 hs.2, show (wv (wv f 2 (f 7 s) ((f 2 (f 7 s)) + (min pay (99999 - (f 2 (f 7 s)))))) 9 s (w32 ((f 9 s) + 1))) 9 = _ from eb0, up_s]
        · rw [up_n (by omega), up_n (by omega), nwC_s h0 h1, show (wv (wv f 2 (f 7 s) ((f 2 (f 7 s)) + (min pay (99999 - (f 2 (f 7 s)))))) 9 s (w32 ((f 9 s) + 1))) 9 = _ from eb0, up_n e]) (by show f (fv 1 13) 0 = _; unfold bkN; rw [up_s, nwC_37, if_pos (by omega)]; omega) (by show f 19 = _; unfold bkR; rw [nwC_37, if_pos (by omega)])
      rw [show mx [2, 9, 19, fv 1 13] f (wv (wv f 2 (f 7 s) ((f 2 (f 7 s)) + (min pay (99999 - (f 2 (f 7 s)))))) 9 s (w32 ((f 9 s) + 1))) = (wv (wv f 2 (f 7 s) ((f 2 (f 7 s)) + (min pay (99999 - (f 2 (f 7 s)))))) 9 s (w32 ((f 9 s) + 1))) from ((mx_wv rfl (mx_wv rfl mx_rf))).symm] at hk
      exact hk
  · omega
set_option maxRecDepth 100000 in
set_option maxHeartbeats 4000000 in
theorem k_mis {sd la : Int} (hd : 2 ≤ d) (hla : la = -1 ∨ ∃ t, 0 ≤ t ∧ t < 29 ∧ (f 7 t) = la) (k0 : ((f (fv 1 16) 0) ≤ 0) → Q (some (iI (prC (f 7) (f (fv 1 16) 0) sd (nwC f) la))) f g) (k1 : (0 < (f (fv 1 16) 0)) → Q (some (iI (prC (f 7) (f (fv 1 16) 0) sd (nwC f) la))) (wv f (fv 1 17) 0 (nxt (f (fv 1 17) 0))) g) : wq d 157 [iR 54, iI sd, iI la] f g Q := by
  obtain ⟨d, rfl⟩ : ∃ e, d = e + 1 := ⟨d - 1, by omega⟩
  refine i_meth0 rfl rfl (fun O J hO => ?_)
  refine ⟨fun (hh_1 : 0 < f (fv 1 16) 0) => ?_, fun (hh_1 : ¬ 0 < f (fv 1 16) 0) => ?_⟩
  · refine hO (k_draw (by omega) (show 1000 = 1000 from rfl) ?_)
    refine ⟨fun (hh_2 : drw (nxt (f (fv 1 17) 0)) 1000 < f (fv 1 16) 0) => ?_, fun (hh_2 : ¬ drw (nxt (f (fv 1 17) 0)) 1000 < f (fv 1 16) 0) => ?_⟩
    · refine ⟨fun h => absurd (show (1 : Int) = 0 from h) (by decide), fun _ => ?_⟩
      refine ⟨fun (hh_3 : la = (-1)) => ?_, fun (hh_3 : ¬ la = (-1)) => ?_⟩
      · rw [show prC (f 7) (f (fv 1 16) 0) sd (nwC f) la = sd from by unfold prC; rw [nwC_39]; first | rw [if_pos ⟨by omega, by assumption, by assumption⟩] | rw [if_neg (fun h => by first | omega | exact h.2.2 (by assumption) | exact absurd h.2.1 (by assumption))]] at k1
        exact k1 (by omega)
      · refine hO (k_least (by omega) (show ∃ t, 0 ≤ t ∧ t < 29 ∧ (f 7 t) = la from by rcases hla with h | h; exact absurd h (by assumption); exact h) ?_)
        rw [show prC (f 7) (f (fv 1 16) 0) sd (nwC f) la = lsI (f 7) la from by unfold prC; rw [nwC_39]; first | rw [if_pos ⟨by omega, by assumption, by assumption⟩] | rw [if_neg (fun h => by first | omega | exact h.2.2 (by assumption) | exact absurd h.2.1 (by assumption))]] at k1
        exact k1 (by omega)
    · refine ⟨fun _ => ?_, fun h => absurd (show (0 : Int) = 0 from by decide) h⟩
      rw [show prC (f 7) (f (fv 1 16) 0) sd (nwC f) la = sd from by unfold prC; rw [nwC_39]; first | rw [if_pos ⟨by omega, by assumption, by assumption⟩] | rw [if_neg (fun h => by first | omega | exact h.2.2 (by assumption) | exact absurd h.2.1 (by assumption))]] at k1
      exact k1 (by omega)
  · rw [show prC (f 7) (f (fv 1 16) 0) sd (nwC f) la = sd from by unfold prC; rw [nwC_39]; first | rw [if_pos ⟨by omega, by assumption, by assumption⟩] | rw [if_neg (fun h => by first | omega | exact h.2.2 (by assumption) | exact absurd h.2.1 (by assumption))]] at k0
    exact k0 (by omega)
set_option maxRecDepth 100000 in
set_option maxHeartbeats 4000000 in
theorem k_payInstead {i sd ct : Int} (hd : 4 ≤ d) (hi : 0 ≤ i ∧ i < (f (fv 10 1) 0)) (hsd : sd = (f 11 i) ∧ sd < 29) (hct : 0 ≤ ct ∧ ct < 29) (hrw : rowB (f (fv 10 1) 0) 60 (f 11)) (hlgA : bit (f (fv 15 5) 0) 2 = true → ∀ j, 0 ≤ j → j < (f (fv 10 1) 0) → (f 56 j) = lgI (aC f) (f 11) (f (fv 10 1) 0) j) (hcb : (coB f)) (hab : (abOK f)) (hl : (lC f)) (hA : lwask (f (fv 15 5) 0) (lwC f)) (hday : 0 ≤ (f (fv 1 15) 0) ∧ (f (fv 1 15) 0) ≤ 9999) (hmo : mOK (lwC f) g) (k0 : ∀ f1 : iF, ∀ g1 : iG, (mOK (lwC f) g1) → (f1 11 = (f 11)) → (bit (f (fv 15 5) 0) 2 = true → ∀ j, 0 ≤ j → j < (f (fv 10 1) 0) → f1 56 j = lgI (aC f) (f 11) (f (fv 10 1) 0) j) → Q (some (iI (pyI (aC f) (f 7) (f (fv 1 15) 0) (lwC f) (up (f 11) i ct) (f (fv 10 1) 0) i))) (mx [11, 56, 57, 58] f f1) g1) : wq d 158 [iR 54, iI i, iI sd, iI ct] f g Q := by
  obtain ⟨d, rfl⟩ : ∃ e, d = e + 1 := ⟨d - 1, by omega⟩
  refine i_meth0 rfl rfl (fun O J hO => ?_)
  have hrw1 := hrw.1
  have hri := hrw.2 i (by omega) (by omega)
  refine ⟨fun (hh_1 : sd = ct) => ?_, fun (hh_1 : ¬ sd = ct) => ?_⟩
  · refine hO (k_payAt_pg (by omega) (show 0 ≤ i ∧ i < (f (fv 10 1) 0) from hi) (show rowB (f (fv 10 1) 0) 60 (f 11) from hrw) (show (f 11 i) < 29 from by omega) (show bit (f (fv 15 5) 0) 2 = true → (f 56 i) = lgI (aC f) (f 11) (f (fv 10 1) 0) i from fun h => hlgA h i hi.1 hi.2) (show (coB f) from hcb) (show (abOK f) from hab) (show (lC f) from hl) (show lwask (f (fv 15 5) 0) (lwC f) from hA) (show 0 ≤ (f (fv 1 15) 0) ∧ (f (fv 1 15) 0) ≤ 9999 from hday) (show mOK (lwC f) g from hmo) (fun f1_2 g1_3 (hh_4 : mOK (lwC f) g1_3) => ?_))
    rw [show pyI (aC f) (f 7) (f (fv 1 15) 0) (lwC f) (up (f 11) i ct) (f (fv 10 1) 0) i = pyI (aC f) (f 7) (f (fv 1 15) 0) (lwC f) (f 11) (f (fv 10 1) 0) i from pyI_cg (fun k h0 h1 => by unfold up; split; (rename_i e; rw [e]; omega); rfl) hi.1 hi.2] at k0
    have hk := k0 (mx [57, 58] f f1_2) g1_3 (by assumption) rfl hlgA
    rw [show mx [11, 56, 57, 58] f (mx [57, 58] f f1_2) = (mx [57, 58] f f1_2) from ((mx_mx rfl mx_rf)).symm] at hk
    exact hk
  · refine hO (k_put_pg (by omega) (show 0 ≤ i ∧ i < (f (fv 10 1) 0) from hi) (show (f (fv 10 1) 0) ≤ 60 from by omega) ?_)
    refine hO (k_measure_pg (by omega) (show 0 ≤ 0 ∧ 0 ≤ (f (fv 10 1) 0) from by omega) (show 0 = 0 ∨ isL ((wv f 11 i ct) 11) (f (fv 10 1) 0) (0 - 1) = false from Or.inl rfl) (show rowB (f (fv 10 1) 0) 60 ((wv f 11 i ct) 11) from ⟨hrw.1, fun k h0 h1 => by show 0 ≤ wv f 11 i ct 11 k ∧ wv f 11 i ct 11 k ≤ 29; rw [wv_i]; split; omega; exact hrw.2 k h0 h1⟩) (show (abOK f) from hab) (fun f1_5 (hh_6 : bit (f (fv 15 5) 0) 2 = true → ∀ j, 0 ≤ j → j < (f (fv 10 1) 0) → f1_5 56 j = lgI (aC f) ((wv f 11 i ct) 11) (f (fv 10 1) 0) j) (hh_7 : ∀ j, 0 ≤ j → j < 0 → f1_5 56 j = (f 56 j)) => ?_))
    have hlg1 := hh_6
    refine hO (k_payAt_pg (by omega) (show 0 ≤ i ∧ i < (f (fv 10 1) 0) from hi) (show rowB (f (fv 10 1) 0) 60 ((wv f 11 i ct) 11) from ⟨hrw.1, fun k h0 h1 => by show 0 ≤ wv f 11 i ct 11 k ∧ wv f 11 i ct 11 k ≤ 29; rw [wv_i]; split; omega; exact hrw.2 k h0 h1⟩) (show ((wv f 11 i ct) 11 i) < 29 from by rw [wv_s]; exact hct.2) (show bit (f (fv 15 5) 0) 2 = true → (f1_5 56 i) = lgI (aC f) ((wv f 11 i ct) 11) (f (fv 10 1) 0) i from fun h => hlg1 h i hi.1 hi.2) (show (coB f) from hcb) (show (abOK f) from hab) (show (lC f) from hl) (show lwask (f (fv 15 5) 0) (lwC f) from hA) (show 0 ≤ (f (fv 1 15) 0) ∧ (f (fv 1 15) 0) ≤ 9999 from hday) (show mOK (lwC f) g from hmo) (fun f1_8 g1_9 (hh_10 : mOK (lwC f) g1_9) => ?_))
    have hmoA := hh_10
    refine hO (k_put_pg (by omega) (show 0 ≤ i ∧ i < (f (fv 10 1) 0) from hi) (show (f (fv 10 1) 0) ≤ 60 from by omega) ?_)
    have hb11 : ((wv (mx [57, 58] (mx [56] (wv f 11 i ct) f1_5) f1_8) 11 i sd) 11) = f 11 := by
      rw [show ((wv (mx [57, 58] (mx [56] (wv f 11 i ct) f1_5) f1_8) 11 i sd) 11) = up (wv f 11 i ct 11) i sd from wv_up, wv_up, hsd.1, up_up]
    refine hO (k_measure_pg (by omega) (show 0 ≤ 0 ∧ 0 ≤ (f (fv 10 1) 0) from by omega) (show 0 = 0 ∨ isL ((wv (mx [57, 58] (mx [56] (wv f 11 i ct) f1_5) f1_8) 11 i sd) 11) (f (fv 10 1) 0) (0 - 1) = false from Or.inl rfl) (show rowB (f (fv 10 1) 0) 60 ((wv (mx [57, 58] (mx [56] (wv f 11 i ct) f1_5) f1_8) 11 i sd) 11) from by rw [hb11]; exact hrw) (show (abOK f) from hab) (fun f1_11 (hh_12 : bit (f (fv 15 5) 0) 2 = true → ∀ j, 0 ≤ j → j < (f (fv 10 1) 0) → f1_11 56 j = lgI (aC f) ((wv (mx [57, 58] (mx [56] (wv f 11 i ct) f1_5) f1_8) 11 i sd) 11) (f (fv 10 1) 0) j) (hh_13 : ∀ j, 0 ≤ j → j < 0 → f1_11 56 j = (f1_5 56 j)) => ?_))
    have hlg9 := hh_12
    rw [show up (f 11) i ct = wv f 11 i ct 11 from wv_up.symm] at k0
    have hk := k0 (mx [56] (wv (mx [57, 58] (mx [56] (wv f 11 i ct) f1_5) f1_8) 11 i sd) f1_11) g1_9 hmoA hb11 (by rw [hb11] at hlg9; exact fun h j h0 h1 => hlg9 h j h0 h1)
    rw [show mx [11, 56, 57, 58] f (mx [56] (wv (mx [57, 58] (mx [56] (wv f 11 i ct) f1_5) f1_8) 11 i sd) f1_11) = (mx [56] (wv (mx [57, 58] (mx [56] (wv f 11 i ct) f1_5) f1_8) 11 i sd) f1_11) from ((mx_mx rfl (mx_wv rfl (mx_mx rfl (mx_mx rfl (mx_wv rfl mx_rf)))))).symm] at hk
    exact hk
theorem bkN_cg {ow now now' : Int → Int} {s pay : Int} (h : ∀ k, 0 ≤ k → k < 40 → now k = now' k) (hs : 0 ≤ s ∧ s < 29) (ho : 0 ≤ ow s ∧ ow s < 8) : ∀ k, 0 ≤ k → k < 40 → bkN ow now s pay k = bkN ow now' s pay k := by
  intro k h0 h1
  unfold bkN
  rw [h (ow s) (by omega) (by omega), h (8 + s) (by omega) (by omega), h 37 (by omega) (by omega)]
  unfold up
  rw [h k h0 h1]
theorem bkR_cg {ow now now' roll : Int → Int} {day s i pay : Int} (h : ∀ k, 0 ≤ k → k < 40 → now k = now' k) (ho : 0 ≤ ow s ∧ ow s < 8) : bkR ow now roll day s i pay = bkR ow now' roll day s i pay := by
  unfold bkR
  rw [h 37 (by omega) (by omega), h (ow s) (by omega) (by omega)]
theorem prC_cg {ow now now' : Int → Int} {jl st lo : Int} (h : ∀ k, 0 ≤ k → k < 40 → now k = now' k) : prC ow jl st now lo = prC ow jl st now' lo := by
  unfold prC
  rw [h 39 (by omega) (by omega)]
theorem nwC_all {F : iF} {now : Int → Int} (h2 : ∀ a, 0 ≤ a → a < 8 → F 2 a = now a) (h9 : ∀ t, 0 ≤ t → t < 29 → F 9 t = now (8 + t)) (h13 : F (fv 1 13) 0 = now 37) (h14 : F (fv 1 14) 0 = now 38) (h17 : F (fv 1 17) 0 = now 39) : ∀ k, 0 ≤ k → k < 40 → nwC F k = now k := by
  intro k h0 h1
  by_cases e : k < 8
  · rw [nwC_a e]; exact h2 k h0 e
  · by_cases e2 : k < 37
    · have := nwC_s (f := F) (s := k - 8) (by omega) (by omega)
      rw [show 8 + (k - 8) = k by omega] at this
      rw [this, h9 (k - 8) (by omega) (by omega), show 8 + (k - 8) = k by omega]
    · have : k = 37 ∨ k = 38 ∨ k = 39 := by omega
      rcases this with e | e | e <;> subst e <;> assumption
theorem prC_in {ow now : Int → Int} {jl st lo : Int} (hst : 0 ≤ st ∧ st < 29) (hlo : lo = -1 ∨ ∃ t, 0 ≤ t ∧ t < 29 ∧ ow t = lo) : 0 ≤ prC ow jl st now lo ∧ prC ow jl st now lo < 29 := by
  unfold prC
  split
  · rename_i h
    rcases hlo with e | ⟨t, t0, t1, t2⟩
    · exact absurd e h.2.2
    · exact ⟨(lsI_r t0 t1 t2).1, (lsI_r t0 t1 t2).2.1⟩
  · exact hst
set_option maxRecDepth 100000 in
set_option maxHeartbeats 4000000 in
theorem k_printPage (hd : 5 ≤ d) (hrw : rowB (f (fv 10 1) 0) 60 (f 11)) (hjl : 0 ≤ (f (fv 1 16) 0) ∧ (f (fv 1 16) 0) ≤ 1000) (hpu : ∀ a, 0 ≤ a → a < 8 → 0 ≤ (f 2 a) ∧ (f 2 a) ≤ 99999) (hro : 0 ≤ (f (fv 1 13) 0) ∧ (f (fv 1 13) 0) ≤ 200) (hcb : (coB f)) (hl : (lC f)) (hA : lwask (f (fv 15 5) 0) (lwC f)) (hday : 0 ≤ (f (fv 1 15) 0) ∧ (f (fv 1 15) 0) ≤ 9999) (hmo : mOK (lwC f) g) (k0 : ∀ f1 : iF, ∀ g1 : iG, (∀ a, 0 ≤ a → a < 8 → f1 2 a = (prI (aC f) (f 7) (f (fv 1 15) 0) (lwC f) (f 11) (f (fv 10 1) 0) (f (fv 1 16) 0) ((nwC f), (f 19), -1, 0) (f (fv 10 1) 0)).1 a) → (∀ t, 0 ≤ t → t < 29 → f1 9 t = (prI (aC f) (f 7) (f (fv 1 15) 0) (lwC f) (f 11) (f (fv 10 1) 0) (f (fv 1 16) 0) ((nwC f), (f 19), -1, 0) (f (fv 10 1) 0)).1 (8 + t)) → (f1 (fv 1 13) 0 = (prI (aC f) (f 7) (f (fv 1 15) 0) (lwC f) (f 11) (f (fv 10 1) 0) (f (fv 1 16) 0) ((nwC f), (f 19), -1, 0) (f (fv 10 1) 0)).1 37 ∧ f1 (fv 1 14) 0 = (prI (aC f) (f 7) (f (fv 1 15) 0) (lwC f) (f 11) (f (fv 10 1) 0) (f (fv 1 16) 0) ((nwC f), (f 19), -1, 0) (f (fv 10 1) 0)).1 38 ∧ f1 (fv 1 17) 0 = (prI (aC f) (f 7) (f (fv 1 15) 0) (lwC f) (f 11) (f (fv 10 1) 0) (f (fv 1 16) 0) ((nwC f), (f 19), -1, 0) (f (fv 10 1) 0)).1 39) → (f1 19 = (prI (aC f) (f 7) (f (fv 1 15) 0) (lwC f) (f 11) (f (fv 10 1) 0) (f (fv 1 16) 0) ((nwC f), (f 19), -1, 0) (f (fv 10 1) 0)).2.1) → (f1 11 = (f 11)) → (mOK (lwC f) g1) → Q (some (iI ((prI (aC f) (f 7) (f (fv 1 15) 0) (lwC f) (f 11) (f (fv 10 1) 0) (f (fv 1 16) 0) ((nwC f), (f 19), -1, 0) (f (fv 10 1) 0)).2.2.2))) (mx [2, 9, 11, 19, 55, 56, 57, 58, fv 1 13, fv 1 14, fv 1 17] f f1) g1) : wq d 156 [iR 54] f g Q := by
  obtain ⟨d, rfl⟩ : ∃ e, d = e + 1 := ⟨d - 1, by omega⟩
  refine i_meth [(14, 4)] (fun n j lv st f' g' => (j = 14 ∧ ∃ (cn : Int) (la : Int) (i : Int) (f1 : iF) (g1 : iG), lv = [some (iR 54), some (iI cn), some (iI la), some (iI i)] ∧ st = [] ∧ f' = (mx [2, 9, 11, 19, 55, 56, 57, 58, fv 1 13, fv 1 14, fv 1 17] f f1) ∧ g1 = g' ∧ (0 ≤ i ∧ i ≤ (f (fv 10 1) 0) ∧ 0 ≤ cn ∧ cn ≤ i) ∧ (cn = (prI (aC f) (f 7) (f (fv 1 15) 0) (lwC f) (f 11) (f (fv 10 1) 0) (f (fv 1 16) 0) (nwC f, f 19, -1, 0) i).2.2.2) ∧ (la = (prI (aC f) (f 7) (f (fv 1 15) 0) (lwC f) (f 11) (f (fv 10 1) 0) (f (fv 1 16) 0) (nwC f, f 19, -1, 0) i).2.2.1) ∧ (la = -1 ∨ ∃ t, 0 ≤ t ∧ t < 29 ∧ f 7 t = la) ∧ (∀ a, 0 ≤ a → a < 8 → f1 2 a = (prI (aC f) (f 7) (f (fv 1 15) 0) (lwC f) (f 11) (f (fv 10 1) 0) (f (fv 1 16) 0) (nwC f, f 19, -1, 0) i).1 a) ∧ (∀ t, 0 ≤ t → t < 29 → f1 9 t = (prI (aC f) (f 7) (f (fv 1 15) 0) (lwC f) (f 11) (f (fv 10 1) 0) (f (fv 1 16) 0) (nwC f, f 19, -1, 0) i).1 (8 + t)) ∧ (f1 (fv 1 13) 0 = (prI (aC f) (f 7) (f (fv 1 15) 0) (lwC f) (f 11) (f (fv 10 1) 0) (f (fv 1 16) 0) (nwC f, f 19, -1, 0) i).1 37) ∧ (f1 (fv 1 14) 0 = (prI (aC f) (f 7) (f (fv 1 15) 0) (lwC f) (f 11) (f (fv 10 1) 0) (f (fv 1 16) 0) (nwC f, f 19, -1, 0) i).1 38) ∧ (f1 (fv 1 17) 0 = (prI (aC f) (f 7) (f (fv 1 15) 0) (lwC f) (f 11) (f (fv 10 1) 0) (f (fv 1 16) 0) (nwC f, f 19, -1, 0) i).1 39) ∧ (f1 19 = (prI (aC f) (f 7) (f (fv 1 15) 0) (lwC f) (f 11) (f (fv 10 1) 0) (f (fv 1 16) 0) (nwC f, f 19, -1, 0) i).2.1) ∧ (f1 11 = f 11) ∧ ((abOK (mx [2, 9, 11, 19, 55, 56, 57, 58, fv 1 13, fv 1 14, fv 1 17] f f1))) ∧ (bit (f (fv 15 5) 0) 2 = true → ∀ j, 0 ≤ j → j < (f (fv 10 1) 0) → f1 56 j = lgI (aC f) (f 11) (f (fv 10 1) 0) j) ∧ (mOK (lwC f) g1) ∧ ((∀ a, 0 ≤ a → a < 8 → 0 ≤ (prI (aC f) (f 7) (f (fv 1 15) 0) (lwC f) (f 11) (f (fv 10 1) 0) (f (fv 1 16) 0) (nwC f, f 19, -1, 0) i).1 a ∧ (prI (aC f) (f 7) (f (fv 1 15) 0) (lwC f) (f 11) (f (fv 10 1) 0) (f (fv 1 16) 0) (nwC f, f 19, -1, 0) i).1 a ≤ 99999) ∧ 0 ≤ (prI (aC f) (f 7) (f (fv 1 15) 0) (lwC f) (f 11) (f (fv 10 1) 0) (f (fv 1 16) 0) (nwC f, f 19, -1, 0) i).1 37 ∧ (prI (aC f) (f 7) (f (fv 1 15) 0) (lwC f) (f 11) (f (fv 10 1) 0) (f (fv 1 16) 0) (nwC f, f 19, -1, 0) i).1 37 ≤ 200) ∧ (n : Int) = (f (fv 10 1) 0) - i)) 60 (by omega) rfl rfl (fun n j lv st f' g' hn hI O J hO hF hB => ?_) (fun hvs hin O J hO hF => ?_)
  · obtain ⟨rfl, cn, la, i, f1, g1, rfl, rfl, rfl, rfl, hi, hcn, hla, hlt, h2, h9, h13, h14, h17, h19, h11, hab, hlgA, hmo1, hb, hm⟩ := hI
    have hrw1 := hrw.1
    have hcb1 := hcb.1
    refine ⟨fun (hh_1 : i < f (fv 10 1) 0) => ?_, fun (hh_1 : ¬ i < f (fv 10 1) 0) => ?_⟩
    · have hri := hrw.2 i (by omega) (by omega)
      rw [← h11] at hri
      refine ⟨fun _ => ?_, fun h => absurd (show i < 60 from by omega) h⟩
      refine hO (k_get_pg (by omega) (show 0 ≤ i ∧ i < 60 from by omega) ?_)
      refine hO (k_isSign (by omega) (fun (hh_2 : 0 ≤ (f1 11 i)) (hh_3 : (f1 11 i) < 29) => ?_) (fun (hh_4 : ¬ (0 ≤ (f1 11 i) ∧ (f1 11 i) < 29)) => ?_))
      · have hnb : ¬ f 11 i = 29 := by rw [← h11]; omega
        refine ⟨fun h => absurd (show (1 : Int) = 0 from h) (by decide), fun _ => ?_⟩
        refine hO (k_mis (by omega) (show la = -1 ∨ ∃ t, 0 ≤ t ∧ t < 29 ∧ (f 7 t) = la from hlt) (fun (hh_5 : (f (fv 1 16) 0) ≤ 0) => ?_) (fun (hh_6 : 0 < (f (fv 1 16) 0)) => ?_))
        · have hN : ∀ k, 0 ≤ k → k < 40 → nwC (mx [2, 9, 11, 19, 55, 56, 57, 58, fv 1 13, fv 1 14, fv 1 17] f f1) k = (prI (aC f) (f 7) (f (fv 1 15) 0) (lwC f) (f 11) (f (fv 10 1) 0) (f (fv 1 16) 0) (nwC f, f 19, -1, 0) i).1 k := nwC_all h2 h9 h13 h14 h17
          have hcs2 : prC (f 7) (f (fv 1 16) 0) (f1 11 i) (nwC (mx [2, 9, 11, 19, 55, 56, 57, 58, fv 1 13, fv 1 14, fv 1 17] f f1)) la = prC (f 7) (f (fv 1 16) 0) (f 11 i) (prI (aC f) (f 7) (f (fv 1 15) 0) (lwC f) (f 11) (f (fv 10 1) 0) (f (fv 1 16) 0) (nwC f, f 19, -1, 0) i).1 (prI (aC f) (f 7) (f (fv 1 15) 0) (lwC f) (f 11) (f (fv 10 1) 0) (f (fv 1 16) 0) (nwC f, f 19, -1, 0) i).2.2.1 := by rw [prC_cg hN, hla, show f1 11 i = f 11 i by rw [h11]]
          have hcr := prC_in (ow := f 7) (now := (prI (aC f) (f 7) (f (fv 1 15) 0) (lwC f) (f 11) (f (fv 10 1) 0) (f (fv 1 16) 0) (nwC f, f 19, -1, 0) i).1) (jl := f (fv 1 16) 0) (st := f 11 i) (lo := la) (by rw [← h11]; omega) hlt
          rw [hla, ← hcs2] at hcr
          have hD : ∀ k, 0 ≤ k → k < 40 → (nwC (mx [2, 9, 11, 19, 55, 56, 57, 58, fv 1 13, fv 1 14, fv 1 17] f f1)) k = prD (f (fv 1 16) 0) (prI (aC f) (f 7) (f (fv 1 15) 0) (lwC f) (f 11) (f (fv 10 1) 0) (f (fv 1 16) 0) (nwC f, f 19, -1, 0) i).1 k := by intro k h0 h1; unfold prD; rw [if_neg (by omega)]; exact hN k h0 h1
          have hDb : ∀ a, 0 ≤ a → a < 8 → prD (f (fv 1 16) 0) (prI (aC f) (f 7) (f (fv 1 15) 0) (lwC f) (f 11) (f (fv 10 1) 0) (f (fv 1 16) 0) (nwC f, f 19, -1, 0) i).1 a = (prI (aC f) (f 7) (f (fv 1 15) 0) (lwC f) (f 11) (f (fv 10 1) 0) (f (fv 1 16) 0) (nwC f, f 19, -1, 0) i).1 a := by intro a h0 h1; unfold prD; by_cases hj9 : 0 < f (fv 1 16) 0; rw [if_pos hj9]; exact up_n (by omega); rw [if_neg hj9]
          have hDc : prD (f (fv 1 16) 0) (prI (aC f) (f 7) (f (fv 1 15) 0) (lwC f) (f 11) (f (fv 10 1) 0) (f (fv 1 16) 0) (nwC f, f 19, -1, 0) i).1 37 = (prI (aC f) (f 7) (f (fv 1 15) 0) (lwC f) (f 11) (f (fv 10 1) 0) (f (fv 1 16) 0) (nwC f, f 19, -1, 0) i).1 37 := by unfold prD; by_cases hj9 : 0 < f (fv 1 16) 0; rw [if_pos hj9]; exact up_n (by omega); rw [if_neg hj9]
          refine hO (k_isAble (by omega) (show (abOK (mx [2, 9, 11, 19, 55, 56, 57, 58, fv 1 13, fv 1 14, fv 1 17] f f1)) from hab) (fun (hh_7 : (aC f) (prC (f 7) (f (fv 1 16) 0) (f1 11 i) (nwC (mx [2, 9, 11, 19, 55, 56, 57, 58, fv 1 13, fv 1 14, fv 1 17] f f1)) la) = true) => ?_) (fun (hh_8 : (aC f) (prC (f 7) (f (fv 1 16) 0) (f1 11 i) (nwC (mx [2, 9, 11, 19, 55, 56, 57, 58, fv 1 13, fv 1 14, fv 1 17] f f1)) la) = false) => ?_))
          · have hac := aC_t.mp hh_7
            have hcs := hcb.2 (prC (f 7) (f (fv 1 16) 0) (f1 11 i) (nwC (mx [2, 9, 11, 19, 55, 56, 57, 58, fv 1 13, fv 1 14, fv 1 17] f f1)) la) (by omega) (by omega)
            have hstep := (prI_s (ab := aC f) (ow := f 7) (day := f (fv 1 15) 0) (w := lwC f) (pg := f 11) (n := (f (fv 10 1) 0)) (jl := f (fv 1 16) 0) (p := (nwC f, f 19, -1, 0)) (i := i) (by omega)).trans (prS_p hnb hcs2 hh_7)
            refine ⟨fun h => absurd (show (1 : Int) = 0 from h) (by decide), fun _ => ?_⟩
            refine hO (k_payInstead (by omega) (show 0 ≤ i ∧ i < (f (fv 10 1) 0) from by omega) (show (f1 11 i) = (f1 11 i) ∧ (f1 11 i) < 29 from ⟨rfl, by omega⟩) (show 0 ≤ (prC (f 7) (f (fv 1 16) 0) (f1 11 i) (nwC (mx [2, 9, 11, 19, 55, 56, 57, 58, fv 1 13, fv 1 14, fv 1 17] f f1)) la) ∧ (prC (f 7) (f (fv 1 16) 0) (f1 11 i) (nwC (mx [2, 9, 11, 19, 55, 56, 57, 58, fv 1 13, fv 1 14, fv 1 17] f f1)) la) < 29 from hcr) (show rowB (f (fv 10 1) 0) 60 (f1 11) from by rw [h11]; exact hrw) (show bit (f (fv 15 5) 0) 2 = true → ∀ j, 0 ≤ j → j < (f (fv 10 1) 0) → (f1 56 j) = lgI (aC f) (f1 11) (f (fv 10 1) 0) j from by rw [h11]; exact hlgA) (show (coB f) from hcb) (show (abOK (mx [2, 9, 11, 19, 55, 56, 57, 58, fv 1 13, fv 1 14, fv 1 17] f f1)) from hab) (show (lC f) from hl) (show lwask (f (fv 15 5) 0) (lwC f) from hA) (show 0 ≤ (f (fv 1 15) 0) ∧ (f (fv 1 15) 0) ≤ 9999 from hday) (show mOK (lwC f) g1 from hmo1) (fun f1_9 g1_10 (hh_11 : mOK (lwC f) g1_10) (hh_12 : f1_9 11 = (f1 11)) (hh_13 : bit (f (fv 15 5) 0) 2 = true → ∀ j, 0 ≤ j → j < (f (fv 10 1) 0) → f1_9 56 j = lgI (aC f) (f1 11) (f (fv 10 1) 0) j) => ?_))
            have hp11 : f1_9 11 = f 11 := hh_12.trans h11
            have hplg := hh_13
            rw [h11] at hplg
            have hpyr := pyI_r (ab := aC f) (ow := f 7) (day := f (fv 1 15) 0) (w := lwC f) (row := up (f1 11) i (prC (f 7) (f (fv 1 16) 0) (f1 11 i) (nwC (mx [2, 9, 11, 19, 55, 56, 57, 58, fv 1 13, fv 1 14, fv 1 17] f f1)) la)) (n := (f (fv 10 1) 0)) (i := i)
            refine hO (k_book (by omega) (show 0 ≤ (prC (f 7) (f (fv 1 16) 0) (f1 11 i) (nwC (mx [2, 9, 11, 19, 55, 56, 57, 58, fv 1 13, fv 1 14, fv 1 17] f f1)) la) ∧ (prC (f 7) (f (fv 1 16) 0) (f1 11 i) (nwC (mx [2, 9, 11, 19, 55, 56, 57, 58, fv 1 13, fv 1 14, fv 1 17] f f1)) la) < 29 from hcr) (show (coB f) from hcb) (show 0 ≤ (f 7 (prC (f 7) (f (fv 1 16) 0) (f1 11 i) (nwC (mx [2, 9, 11, 19, 55, 56, 57, 58, fv 1 13, fv 1 14, fv 1 17] f f1)) la)) from by omega) (show ∀ a, 0 ≤ a → a < 8 → 0 ≤ (f1 2 a) ∧ (f1 2 a) ≤ 99999 from fun a h0 h1 => by rw [h2 a h0 h1]; exact hb.1 a h0 h1) (show 0 ≤ (pyI (aC f) (f 7) (f (fv 1 15) 0) (lwC f) (up (f1 11) i (prC (f 7) (f (fv 1 16) 0) (f1 11 i) (nwC (mx [2, 9, 11, 19, 55, 56, 57, 58, fv 1 13, fv 1 14, fv 1 17] f f1)) la)) (f (fv 10 1) 0) i) ∧ (pyI (aC f) (f 7) (f (fv 1 15) 0) (lwC f) (up (f1 11) i (prC (f 7) (f (fv 1 16) 0) (f1 11 i) (nwC (mx [2, 9, 11, 19, 55, 56, 57, 58, fv 1 13, fv 1 14, fv 1 17] f f1)) la)) (f (fv 10 1) 0) i) ≤ 99 from by exact hpyr) (show 0 ≤ (f1 (fv 1 13) 0) ∧ (f1 (fv 1 13) 0) ≤ 200 from by rw [h13]; exact hb.2) (fun f1_14 (hh_15 : ∀ a, 0 ≤ a → a < 8 → f1_14 2 a = bkN (f 7) (nwC (mx [2, 9, 11, 19, 55, 56, 57, 58, fv 1 13, fv 1 14, fv 1 17] f f1)) (prC (f 7) (f (fv 1 16) 0) (f1 11 i) (nwC (mx [2, 9, 11, 19, 55, 56, 57, 58, fv 1 13, fv 1 14, fv 1 17] f f1)) la) (pyI (aC f) (f 7) (f (fv 1 15) 0) (lwC f) (up (f1 11) i (prC (f 7) (f (fv 1 16) 0) (f1 11 i) (nwC (mx [2, 9, 11, 19, 55, 56, 57, 58, fv 1 13, fv 1 14, fv 1 17] f f1)) la)) (f (fv 10 1) 0) i) a) (hh_16 : ∀ t, 0 ≤ t → t < 29 → f1_14 9 t = bkN (f 7) (nwC (mx [2, 9, 11, 19, 55, 56, 57, 58, fv 1 13, fv 1 14, fv 1 17] f f1)) (prC (f 7) (f (fv 1 16) 0) (f1 11 i) (nwC (mx [2, 9, 11, 19, 55, 56, 57, 58, fv 1 13, fv 1 14, fv 1 17] f f1)) la) (pyI (aC f) (f 7) (f (fv 1 15) 0) (lwC f) (up (f1 11) i (prC (f 7) (f (fv 1 16) 0) (f1 11 i) (nwC (mx [2, 9, 11, 19, 55, 56, 57, 58, fv 1 13, fv 1 14, fv 1 17] f f1)) la)) (f (fv 10 1) 0) i) (8 + t)) (hh_17 : f1_14 (fv 1 13) 0 = bkN (f 7) (nwC (mx [2, 9, 11, 19, 55, 56, 57, 58, fv 1 13, fv 1 14, fv 1 17] f f1)) (prC (f 7) (f (fv 1 16) 0) (f1 11 i) (nwC (mx [2, 9, 11, 19, 55, 56, 57, 58, fv 1 13, fv 1 14, fv 1 17] f f1)) la) (pyI (aC f) (f 7) (f (fv 1 15) 0) (lwC f) (up (f1 11) i (prC (f 7) (f (fv 1 16) 0) (f1 11 i) (nwC (mx [2, 9, 11, 19, 55, 56, 57, 58, fv 1 13, fv 1 14, fv 1 17] f f1)) la)) (f (fv 10 1) 0) i) 37) (hh_18 : f1_14 19 = bkR (f 7) (nwC (mx [2, 9, 11, 19, 55, 56, 57, 58, fv 1 13, fv 1 14, fv 1 17] f f1)) (f1 19) (f (fv 1 15) 0) (prC (f 7) (f (fv 1 16) 0) (f1 11 i) (nwC (mx [2, 9, 11, 19, 55, 56, 57, 58, fv 1 13, fv 1 14, fv 1 17] f f1)) la) i (pyI (aC f) (f 7) (f (fv 1 15) 0) (lwC f) (up (f1 11) i (prC (f 7) (f (fv 1 16) 0) (f1 11 i) (nwC (mx [2, 9, 11, 19, 55, 56, 57, 58, fv 1 13, fv 1 14, fv 1 17] f f1)) la)) (f (fv 10 1) 0) i)) => ?_))
            have hq2 := hh_15
            have hq9 := hh_16
            have hq13 := hh_17
            have hq19 := hh_18
            have hpye : pyI (aC f) (f 7) (f (fv 1 15) 0) (lwC f) (up (f1 11) i (prC (f 7) (f (fv 1 16) 0) (f1 11 i) (nwC (mx [2, 9, 11, 19, 55, 56, 57, 58, fv 1 13, fv 1 14, fv 1 17] f f1)) la)) (f (fv 10 1) 0) i = pyI (aC f) (f 7) (f (fv 1 15) 0) (lwC f) (up (f 11) i (prC (f 7) (f (fv 1 16) 0) (f1 11 i) (nwC (mx [2, 9, 11, 19, 55, 56, 57, 58, fv 1 13, fv 1 14, fv 1 17] f f1)) la)) (f (fv 10 1) 0) i := by rw [show up (f1 11) i = up (f 11) i by rw [h11]]
            rw [hpye] at hq2 hq9 hq13 hq19 hpyr
            rw [h19] at hq19
            have hbc := bkN_cg (pay := pyI (aC f) (f 7) (f (fv 1 15) 0) (lwC f) (up (f 11) i (prC (f 7) (f (fv 1 16) 0) (f1 11 i) (nwC (mx [2, 9, 11, 19, 55, 56, 57, 58, fv 1 13, fv 1 14, fv 1 17] f f1)) la)) (f (fv 10 1) 0) i) (ow := f 7) (s := (prC (f 7) (f (fv 1 16) 0) (f1 11 i) (nwC (mx [2, 9, 11, 19, 55, 56, 57, 58, fv 1 13, fv 1 14, fv 1 17] f f1)) la)) hD hcr (by omega)
            have hbr := bkR_cg (roll := (prI (aC f) (f 7) (f (fv 1 15) 0) (lwC f) (f 11) (f (fv 10 1) 0) (f (fv 1 16) 0) (nwC f, f 19, -1, 0) i).2.1) (day := f (fv 1 15) 0) (i := i) (pay := pyI (aC f) (f 7) (f (fv 1 15) 0) (lwC f) (up (f 11) i (prC (f 7) (f (fv 1 16) 0) (f1 11 i) (nwC (mx [2, 9, 11, 19, 55, 56, 57, 58, fv 1 13, fv 1 14, fv 1 17] f f1)) la)) (f (fv 10 1) 0) i) (ow := f 7) (s := (prC (f 7) (f (fv 1 16) 0) (f1 11 i) (nwC (mx [2, 9, 11, 19, 55, 56, 57, 58, fv 1 13, fv 1 14, fv 1 17] f f1)) la)) hD (by omega)
            have hbk := bk_r (now := prD (f (fv 1 16) 0) (prI (aC f) (f 7) (f (fv 1 15) 0) (lwC f) (f 11) (f (fv 10 1) 0) (f (fv 1 16) 0) (nwC f, f 19, -1, 0) i).1) (pay := pyI (aC f) (f 7) (f (fv 1 15) 0) (lwC f) (up (f 11) i (prC (f 7) (f (fv 1 16) 0) (f1 11 i) (nwC (mx [2, 9, 11, 19, 55, 56, 57, 58, fv 1 13, fv 1 14, fv 1 17] f f1)) la)) (f (fv 10 1) 0) i) (ow := f 7) (s := (prC (f 7) (f (fv 1 16) 0) (f1 11 i) (nwC (mx [2, 9, 11, 19, 55, 56, 57, 58, fv 1 13, fv 1 14, fv 1 17] f f1)) la)) ⟨fun a h0 h1 => by rw [hDb a h0 h1]; exact hb.1 a h0 h1, by rw [hDc]; exact hb.2⟩ (by omega) hcr hpyr
            refine ⟨show 0 ≤ (prC (f 7) (f (fv 1 16) 0) (f1 11 i) (nwC (mx [2, 9, 11, 19, 55, 56, 57, 58, fv 1 13, fv 1 14, fv 1 17] f f1)) la : Int) ∧ prC (f 7) (f (fv 1 16) 0) (f1 11 i) (nwC (mx [2, 9, 11, 19, 55, 56, 57, 58, fv 1 13, fv 1 14, fv 1 17] f f1)) la < 29 from by omega, ?_⟩
            refine ⟨show inr (cn + 1) from by constructor <;> omega, ?_⟩
            refine ⟨show inr (i + 1) from by constructor <;> omega, ?_⟩
            refine hB ((f (fv 10 1) 0) - (i + 1) : Int).toNat ?_ ⟨rfl, (cn + 1), f 7 (prC (f 7) (f (fv 1 16) 0) (f1 11 i) (nwC (mx [2, 9, 11, 19, 55, 56, 57, 58, fv 1 13, fv 1 14, fv 1 17] f f1)) la), (i + 1), (mx [2, 9, 19, fv 1 13] (mx [11, 56, 57, 58] f1 f1_9) f1_14), g1_10, rfl, rfl, (mx_mx rfl (mx_mx rfl rfl)), rfl, ?_, ?_, ?_, ?_, ?_, ?_, ?_, ?_, ?_, ?_, ?_, ?_, ?_, ?_, ?_, ?_⟩
            · omega
            · omega
            · rw [hstep]; show cn + 1 = _ + 1; rw [hcn]
            · rw [hstep]
            · exact Or.inr ⟨_, hcr.1, hcr.2, rfl⟩
            · intro a h0 h1
              rw [hstep]
              exact (hq2 a h0 h1).trans (hbc a h0 (by omega))
            · intro t h0 h1
              rw [hstep]
              exact (hq9 t h0 h1).trans (hbc (8 + t) (by omega) (by omega))
            · rw [hstep]
              exact hq13.trans (hbc 37 (by omega) (by omega))
            · rw [hstep]
              show f1 (fv 1 14) 0 = bkN (f 7) (prD (f (fv 1 16) 0) (prI (aC f) (f 7) (f (fv 1 15) 0) (lwC f) (f 11) (f (fv 10 1) 0) (f (fv 1 16) 0) (nwC f, f 19, -1, 0) i).1) _ _ 38
              unfold bkN
              rw [up_n (by omega), up_n (by omega), up_n (by omega), ← hD 38 (by omega) (by omega)]
              rfl
            · rw [hstep]
              show _ = bkN (f 7) (prD (f (fv 1 16) 0) (prI (aC f) (f 7) (f (fv 1 15) 0) (lwC f) (f 11) (f (fv 10 1) 0) (f (fv 1 16) 0) (nwC f, f 19, -1, 0) i).1) _ _ 39
              unfold bkN
              rw [up_n (by omega), up_n (by omega), up_n (by omega), ← hD 39 (by omega) (by omega)]
              rfl
            · rw [hstep]
              exact hq19.trans hbr
            · exact hp11
            · exact hab
            · exact hplg
            · assumption
            · rw [hstep]; exact hbk
            · omega
          · have hstep := (prI_s (ab := aC f) (ow := f 7) (day := f (fv 1 15) 0) (w := lwC f) (pg := f 11) (n := (f (fv 10 1) 0)) (jl := f (fv 1 16) 0) (p := (nwC f, f 19, -1, 0)) (i := i) (by omega)).trans (prS_g hnb hcs2 hh_8)
            refine ⟨fun _ => ?_, fun h => absurd (show (0 : Int) = 0 from by decide) h⟩
            refine Or.inr ?_
            refine ⟨show inr (i + 1) from by constructor <;> omega, ?_⟩
            refine hB ((f (fv 10 1) 0) - (i + 1) : Int).toNat ?_ ⟨rfl, cn, la, (i + 1), (wv f1 (fv 1 14) 0 (w32 ((f1 (fv 1 14) 0) + 1))), g1, rfl, rfl, (mx_wv rfl rfl), rfl, ?_, ?_, ?_, ?_, ?_, ?_, ?_, ?_, ?_, ?_, ?_, ?_, ?_, ?_, ?_, ?_⟩
            · omega
            · omega
            · rw [hstep]; exact hcn
            · rw [hstep]; exact hla
            · exact hlt
            · intro a h0 h1
              rw [hstep]
              show f1 2 a = prG (prD (f (fv 1 16) 0) (prI (aC f) (f 7) (f (fv 1 15) 0) (lwC f) (f 11) (f (fv 10 1) 0) (f (fv 1 16) 0) (nwC f, f 19, -1, 0) i).1) a
              unfold prG
              rw [up_n (by omega), ← hD a h0 (by omega)]
              exact (nwC_a (f := (mx [2, 9, 11, 19, 55, 56, 57, 58, fv 1 13, fv 1 14, fv 1 17] f f1)) h1).symm
            · intro t h0 h1
              rw [hstep]
              show f1 9 t = prG (prD (f (fv 1 16) 0) (prI (aC f) (f 7) (f (fv 1 15) 0) (lwC f) (f 11) (f (fv 10 1) 0) (f (fv 1 16) 0) (nwC f, f 19, -1, 0) i).1) (8 + t)
              unfold prG
              rw [up_n (by omega), ← hD (8 + t) (by omega) (by omega)]
              exact (nwC_s (f := (mx [2, 9, 11, 19, 55, 56, 57, 58, fv 1 13, fv 1 14, fv 1 17] f f1)) h0 h1).symm
            · rw [hstep]
              show f1 (fv 1 13) 0 = prG (prD (f (fv 1 16) 0) (prI (aC f) (f 7) (f (fv 1 15) 0) (lwC f) (f 11) (f (fv 10 1) 0) (f (fv 1 16) 0) (nwC f, f 19, -1, 0) i).1) 37
              unfold prG
              rw [up_n (by omega), ← hD 37 (by omega) (by omega)]
              rfl
            · rw [hstep]
              show w32 (f1 (fv 1 14) 0 + 1) = prG (prD (f (fv 1 16) 0) (prI (aC f) (f 7) (f (fv 1 15) 0) (lwC f) (f 11) (f (fv 10 1) 0) (f (fv 1 16) 0) (nwC f, f 19, -1, 0) i).1) 38
              unfold prG
              rw [up_s, ← hD 38 (by omega) (by omega)]
              rfl
            · rw [hstep]
              show _ = prG (prD (f (fv 1 16) 0) (prI (aC f) (f 7) (f (fv 1 15) 0) (lwC f) (f 11) (f (fv 10 1) 0) (f (fv 1 16) 0) (nwC f, f 19, -1, 0) i).1) 39
              unfold prG
              rw [up_n (by omega), ← hD 39 (by omega) (by omega)]
              rfl
            · rw [hstep]; exact h19
            · exact h11
            · exact hab
            · exact hlgA
            · exact hmo1
            · rw [hstep]
              refine ⟨fun a h0 h1 => ?_, ?_⟩
              · show 0 ≤ prG (prD (f (fv 1 16) 0) (prI (aC f) (f 7) (f (fv 1 15) 0) (lwC f) (f 11) (f (fv 10 1) 0) (f (fv 1 16) 0) (nwC f, f 19, -1, 0) i).1) a ∧ prG (prD (f (fv 1 16) 0) (prI (aC f) (f 7) (f (fv 1 15) 0) (lwC f) (f 11) (f (fv 10 1) 0) (f (fv 1 16) 0) (nwC f, f 19, -1, 0) i).1) a ≤ 99999
                unfold prG
                rw [up_n (by omega), hDb a h0 h1]; exact hb.1 a h0 h1
              · show 0 ≤ prG (prD (f (fv 1 16) 0) (prI (aC f) (f 7) (f (fv 1 15) 0) (lwC f) (f 11) (f (fv 10 1) 0) (f (fv 1 16) 0) (nwC f, f 19, -1, 0) i).1) 37 ∧ prG (prD (f (fv 1 16) 0) (prI (aC f) (f 7) (f (fv 1 15) 0) (lwC f) (f 11) (f (fv 10 1) 0) (f (fv 1 16) 0) (nwC f, f 19, -1, 0) i).1) 37 ≤ 200
                unfold prG
                rw [up_n (by omega), hDc]; exact hb.2
            · omega
        · have hN : ∀ k, 0 ≤ k → k < 40 → nwC (mx [2, 9, 11, 19, 55, 56, 57, 58, fv 1 13, fv 1 14, fv 1 17] f f1) k = (prI (aC f) (f 7) (f (fv 1 15) 0) (lwC f) (f 11) (f (fv 10 1) 0) (f (fv 1 16) 0) (nwC f, f 19, -1, 0) i).1 k := nwC_all h2 h9 h13 h14 h17
          have hcs2 : prC (f 7) (f (fv 1 16) 0) (f1 11 i) (nwC (mx [2, 9, 11, 19, 55, 56, 57, 58, fv 1 13, fv 1 14, fv 1 17] f f1)) la = prC (f 7) (f (fv 1 16) 0) (f 11 i) (prI (aC f) (f 7) (f (fv 1 15) 0) (lwC f) (f 11) (f (fv 10 1) 0) (f (fv 1 16) 0) (nwC f, f 19, -1, 0) i).1 (prI (aC f) (f 7) (f (fv 1 15) 0) (lwC f) (f 11) (f (fv 10 1) 0) (f (fv 1 16) 0) (nwC f, f 19, -1, 0) i).2.2.1 := by rw [prC_cg hN, hla, show f1 11 i = f 11 i by rw [h11]]
          have hcr := prC_in (ow := f 7) (now := (prI (aC f) (f 7) (f (fv 1 15) 0) (lwC f) (f 11) (f (fv 10 1) 0) (f (fv 1 16) 0) (nwC f, f 19, -1, 0) i).1) (jl := f (fv 1 16) 0) (st := f 11 i) (lo := la) (by rw [← h11]; omega) hlt
          rw [hla, ← hcs2] at hcr
          have hD : ∀ k, 0 ≤ k → k < 40 → (nwC (wv (mx [2, 9, 11, 19, 55, 56, 57, 58, fv 1 13, fv 1 14, fv 1 17] f f1) (fv 1 17) 0 (nxt (f1 (fv 1 17) 0)))) k = prD (f (fv 1 16) 0) (prI (aC f) (f 7) (f (fv 1 15) 0) (lwC f) (f 11) (f (fv 10 1) 0) (f (fv 1 16) 0) (nwC f, f 19, -1, 0) i).1 k := by
            intro k h0 h1
            unfold prD
            rw [if_pos (by omega)]
            by_cases e : k = 39
            · rw [e, up_s]; exact congrArg nxt h17
            · rw [up_n e, ← hN k h0 h1]
              by_cases e1 : k < 8
              · rw [nwC_a e1, nwC_a e1]; rfl
              · by_cases e2 : k < 37
                · unfold nwC; rw [if_neg e1, if_pos e2, if_neg e1, if_pos e2]; rfl
                · have : k = 37 ∨ k = 38 := by omega
                  rcases this with e3 | e3 <;> rw [e3] <;> rfl
          have hDb : ∀ a, 0 ≤ a → a < 8 → prD (f (fv 1 16) 0) (prI (aC f) (f 7) (f (fv 1 15) 0) (lwC f) (f 11) (f (fv 10 1) 0) (f (fv 1 16) 0) (nwC f, f 19, -1, 0) i).1 a = (prI (aC f) (f 7) (f (fv 1 15) 0) (lwC f) (f 11) (f (fv 10 1) 0) (f (fv 1 16) 0) (nwC f, f 19, -1, 0) i).1 a := by intro a h0 h1; unfold prD; by_cases hj9 : 0 < f (fv 1 16) 0; rw [if_pos hj9]; exact up_n (by omega); rw [if_neg hj9]
          have hDc : prD (f (fv 1 16) 0) (prI (aC f) (f 7) (f (fv 1 15) 0) (lwC f) (f 11) (f (fv 10 1) 0) (f (fv 1 16) 0) (nwC f, f 19, -1, 0) i).1 37 = (prI (aC f) (f 7) (f (fv 1 15) 0) (lwC f) (f 11) (f (fv 10 1) 0) (f (fv 1 16) 0) (nwC f, f 19, -1, 0) i).1 37 := by unfold prD; by_cases hj9 : 0 < f (fv 1 16) 0; rw [if_pos hj9]; exact up_n (by omega); rw [if_neg hj9]
          refine hO (k_isAble (by omega) (show (abOK (mx [2, 9, 11, 19, 55, 56, 57, 58, fv 1 13, fv 1 14, fv 1 17] f f1)) from hab) (fun (hh_19 : (aC f) (prC (f 7) (f (fv 1 16) 0) (f1 11 i) (nwC (mx [2, 9, 11, 19, 55, 56, 57, 58, fv 1 13, fv 1 14, fv 1 17] f f1)) la) = true) => ?_) (fun (hh_20 : (aC f) (prC (f 7) (f (fv 1 16) 0) (f1 11 i) (nwC (mx [2, 9, 11, 19, 55, 56, 57, 58, fv 1 13, fv 1 14, fv 1 17] f f1)) la) = false) => ?_))
          · have hac := aC_t.mp hh_19
            have hcs := hcb.2 (prC (f 7) (f (fv 1 16) 0) (f1 11 i) (nwC (mx [2, 9, 11, 19, 55, 56, 57, 58, fv 1 13, fv 1 14, fv 1 17] f f1)) la) (by omega) (by omega)
            have hstep := (prI_s (ab := aC f) (ow := f 7) (day := f (fv 1 15) 0) (w := lwC f) (pg := f 11) (n := (f (fv 10 1) 0)) (jl := f (fv 1 16) 0) (p := (nwC f, f 19, -1, 0)) (i := i) (by omega)).trans (prS_p hnb hcs2 hh_19)
            refine ⟨fun h => absurd (show (1 : Int) = 0 from h) (by decide), fun _ => ?_⟩
            refine hO (k_payInstead (by omega) (show 0 ≤ i ∧ i < (f (fv 10 1) 0) from by omega) (show (f1 11 i) = (f1 11 i) ∧ (f1 11 i) < 29 from ⟨rfl, by omega⟩) (show 0 ≤ (prC (f 7) (f (fv 1 16) 0) (f1 11 i) (nwC (mx [2, 9, 11, 19, 55, 56, 57, 58, fv 1 13, fv 1 14, fv 1 17] f f1)) la) ∧ (prC (f 7) (f (fv 1 16) 0) (f1 11 i) (nwC (mx [2, 9, 11, 19, 55, 56, 57, 58, fv 1 13, fv 1 14, fv 1 17] f f1)) la) < 29 from hcr) (show rowB (f (fv 10 1) 0) 60 (f1 11) from by rw [h11]; exact hrw) (show bit (f (fv 15 5) 0) 2 = true → ∀ j, 0 ≤ j → j < (f (fv 10 1) 0) → (f1 56 j) = lgI (aC f) (f1 11) (f (fv 10 1) 0) j from by rw [h11]; exact hlgA) (show (coB f) from hcb) (show (abOK (mx [2, 9, 11, 19, 55, 56, 57, 58, fv 1 13, fv 1 14, fv 1 17] f f1)) from hab) (show (lC f) from hl) (show lwask (f (fv 15 5) 0) (lwC f) from hA) (show 0 ≤ (f (fv 1 15) 0) ∧ (f (fv 1 15) 0) ≤ 9999 from hday) (show mOK (lwC f) g1 from hmo1) (fun f1_21 g1_22 (hh_23 : mOK (lwC f) g1_22) (hh_24 : f1_21 11 = (f1 11)) (hh_25 : bit (f (fv 15 5) 0) 2 = true → ∀ j, 0 ≤ j → j < (f (fv 10 1) 0) → f1_21 56 j = lgI (aC f) (f1 11) (f (fv 10 1) 0) j) => ?_))
            have hp11 : f1_21 11 = f 11 := hh_24.trans h11
            have hplg := hh_25
            rw [h11] at hplg
            have hpyr := pyI_r (ab := aC f) (ow := f 7) (day := f (fv 1 15) 0) (w := lwC f) (row := up (f1 11) i (prC (f 7) (f (fv 1 16) 0) (f1 11 i) (nwC (mx [2, 9, 11, 19, 55, 56, 57, 58, fv 1 13, fv 1 14, fv 1 17] f f1)) la)) (n := (f (fv 10 1) 0)) (i := i)
            refine hO (k_book (by omega) (show 0 ≤ (prC (f 7) (f (fv 1 16) 0) (f1 11 i) (nwC (mx [2, 9, 11, 19, 55, 56, 57, 58, fv 1 13, fv 1 14, fv 1 17] f f1)) la) ∧ (prC (f 7) (f (fv 1 16) 0) (f1 11 i) (nwC (mx [2, 9, 11, 19, 55, 56, 57, 58, fv 1 13, fv 1 14, fv 1 17] f f1)) la) < 29 from hcr) (show (coB f) from hcb) (show 0 ≤ (f 7 (prC (f 7) (f (fv 1 16) 0) (f1 11 i) (nwC (mx [2, 9, 11, 19, 55, 56, 57, 58, fv 1 13, fv 1 14, fv 1 17] f f1)) la)) from by omega) (show ∀ a, 0 ≤ a → a < 8 → 0 ≤ (f1 2 a) ∧ (f1 2 a) ≤ 99999 from fun a h0 h1 => by rw [h2 a h0 h1]; exact hb.1 a h0 h1) (show 0 ≤ (pyI (aC f) (f 7) (f (fv 1 15) 0) (lwC f) (up (f1 11) i (prC (f 7) (f (fv 1 16) 0) (f1 11 i) (nwC (mx [2, 9, 11, 19, 55, 56, 57, 58, fv 1 13, fv 1 14, fv 1 17] f f1)) la)) (f (fv 10 1) 0) i) ∧ (pyI (aC f) (f 7) (f (fv 1 15) 0) (lwC f) (up (f1 11) i (prC (f 7) (f (fv 1 16) 0) (f1 11 i) (nwC (mx [2, 9, 11, 19, 55, 56, 57, 58, fv 1 13, fv 1 14, fv 1 17] f f1)) la)) (f (fv 10 1) 0) i) ≤ 99 from by exact hpyr) (show 0 ≤ (f1 (fv 1 13) 0) ∧ (f1 (fv 1 13) 0) ≤ 200 from by rw [h13]; exact hb.2) (fun f1_26 (hh_27 : ∀ a, 0 ≤ a → a < 8 → f1_26 2 a = bkN (f 7) (nwC (wv (mx [2, 9, 11, 19, 55, 56, 57, 58, fv 1 13, fv 1 14, fv 1 17] f f1) (fv 1 17) 0 (nxt (f1 (fv 1 17) 0)))) (prC (f 7) (f (fv 1 16) 0) (f1 11 i) (nwC (mx [2, 9, 11, 19, 55, 56, 57, 58, fv 1 13, fv 1 14, fv 1 17] f f1)) la) (pyI (aC f) (f 7) (f (fv 1 15) 0) (lwC f) (up (f1 11) i (prC (f 7) (f (fv 1 16) 0) (f1 11 i) (nwC (mx [2, 9, 11, 19, 55, 56, 57, 58, fv 1 13, fv 1 14, fv 1 17] f f1)) la)) (f (fv 10 1) 0) i) a) (hh_28 : ∀ t, 0 ≤ t → t < 29 → f1_26 9 t = bkN (f 7) (nwC (wv (mx [2, 9, 11, 19, 55, 56, 57, 58, fv 1 13, fv 1 14, fv 1 17] f f1) (fv 1 17) 0 (nxt (f1 (fv 1 17) 0)))) (prC (f 7) (f (fv 1 16) 0) (f1 11 i) (nwC (mx [2, 9, 11, 19, 55, 56, 57, 58, fv 1 13, fv 1 14, fv 1 17] f f1)) la) (pyI (aC f) (f 7) (f (fv 1 15) 0) (lwC f) (up (f1 11) i (prC (f 7) (f (fv 1 16) 0) (f1 11 i) (nwC (mx [2, 9, 11, 19, 55, 56, 57, 58, fv 1 13, fv 1 14, fv 1 17] f f1)) la)) (f (fv 10 1) 0) i) (8 + t)) (hh_29 : f1_26 (fv 1 13) 0 = bkN (f 7) (nwC (wv (mx [2, 9, 11, 19, 55, 56, 57, 58, fv 1 13, fv 1 14, fv 1 17] f f1) (fv 1 17) 0 (nxt (f1 (fv 1 17) 0)))) (prC (f 7) (f (fv 1 16) 0) (f1 11 i) (nwC (mx [2, 9, 11, 19, 55, 56, 57, 58, fv 1 13, fv 1 14, fv 1 17] f f1)) la) (pyI (aC f) (f 7) (f (fv 1 15) 0) (lwC f) (up (f1 11) i (prC (f 7) (f (fv 1 16) 0) (f1 11 i) (nwC (mx [2, 9, 11, 19, 55, 56, 57, 58, fv 1 13, fv 1 14, fv 1 17] f f1)) la)) (f (fv 10 1) 0) i) 37) (hh_30 : f1_26 19 = bkR (f 7) (nwC (wv (mx [2, 9, 11, 19, 55, 56, 57, 58, fv 1 13, fv 1 14, fv 1 17] f f1) (fv 1 17) 0 (nxt (f1 (fv 1 17) 0)))) (f1 19) (f (fv 1 15) 0) (prC (f 7) (f (fv 1 16) 0) (f1 11 i) (nwC (mx [2, 9, 11, 19, 55, 56, 57, 58, fv 1 13, fv 1 14, fv 1 17] f f1)) la) i (pyI (aC f) (f 7) (f (fv 1 15) 0) (lwC f) (up (f1 11) i (prC (f 7) (f (fv 1 16) 0) (f1 11 i) (nwC (mx [2, 9, 11, 19, 55, 56, 57, 58, fv 1 13, fv 1 14, fv 1 17] f f1)) la)) (f (fv 10 1) 0) i)) => ?_))
            have hq2 := hh_27
            have hq9 := hh_28
            have hq13 := hh_29
            have hq19 := hh_30
            have hpye : pyI (aC f) (f 7) (f (fv 1 15) 0) (lwC f) (up (f1 11) i (prC (f 7) (f (fv 1 16) 0) (f1 11 i) (nwC (mx [2, 9, 11, 19, 55, 56, 57, 58, fv 1 13, fv 1 14, fv 1 17] f f1)) la)) (f (fv 10 1) 0) i = pyI (aC f) (f 7) (f (fv 1 15) 0) (lwC f) (up (f 11) i (prC (f 7) (f (fv 1 16) 0) (f1 11 i) (nwC (mx [2, 9, 11, 19, 55, 56, 57, 58, fv 1 13, fv 1 14, fv 1 17] f f1)) la)) (f (fv 10 1) 0) i := by rw [show up (f1 11) i = up (f 11) i by rw [h11]]
            rw [hpye] at hq2 hq9 hq13 hq19 hpyr
            rw [h19] at hq19
            have hbc := bkN_cg (pay := pyI (aC f) (f 7) (f (fv 1 15) 0) (lwC f) (up (f 11) i (prC (f 7) (f (fv 1 16) 0) (f1 11 i) (nwC (mx [2, 9, 11, 19, 55, 56, 57, 58, fv 1 13, fv 1 14, fv 1 17] f f1)) la)) (f (fv 10 1) 0) i) (ow := f 7) (s := (prC (f 7) (f (fv 1 16) 0) (f1 11 i) (nwC (mx [2, 9, 11, 19, 55, 56, 57, 58, fv 1 13, fv 1 14, fv 1 17] f f1)) la)) hD hcr (by omega)
            have hbr := bkR_cg (roll := (prI (aC f) (f 7) (f (fv 1 15) 0) (lwC f) (f 11) (f (fv 10 1) 0) (f (fv 1 16) 0) (nwC f, f 19, -1, 0) i).2.1) (day := f (fv 1 15) 0) (i := i) (pay := pyI (aC f) (f 7) (f (fv 1 15) 0) (lwC f) (up (f 11) i (prC (f 7) (f (fv 1 16) 0) (f1 11 i) (nwC (mx [2, 9, 11, 19, 55, 56, 57, 58, fv 1 13, fv 1 14, fv 1 17] f f1)) la)) (f (fv 10 1) 0) i) (ow := f 7) (s := (prC (f 7) (f (fv 1 16) 0) (f1 11 i) (nwC (mx [2, 9, 11, 19, 55, 56, 57, 58, fv 1 13, fv 1 14, fv 1 17] f f1)) la)) hD (by omega)
            have hbk := bk_r (now := prD (f (fv 1 16) 0) (prI (aC f) (f 7) (f (fv 1 15) 0) (lwC f) (f 11) (f (fv 10 1) 0) (f (fv 1 16) 0) (nwC f, f 19, -1, 0) i).1) (pay := pyI (aC f) (f 7) (f (fv 1 15) 0) (lwC f) (up (f 11) i (prC (f 7) (f (fv 1 16) 0) (f1 11 i) (nwC (mx [2, 9, 11, 19, 55, 56, 57, 58, fv 1 13, fv 1 14, fv 1 17] f f1)) la)) (f (fv 10 1) 0) i) (ow := f 7) (s := (prC (f 7) (f (fv 1 16) 0) (f1 11 i) (nwC (mx [2, 9, 11, 19, 55, 56, 57, 58, fv 1 13, fv 1 14, fv 1 17] f f1)) la)) ⟨fun a h0 h1 => by rw [hDb a h0 h1]; exact hb.1 a h0 h1, by rw [hDc]; exact hb.2⟩ (by omega) hcr hpyr
            refine ⟨show 0 ≤ (prC (f 7) (f (fv 1 16) 0) (f1 11 i) (nwC (mx [2, 9, 11, 19, 55, 56, 57, 58, fv 1 13, fv 1 14, fv 1 17] f f1)) la : Int) ∧ prC (f 7) (f (fv 1 16) 0) (f1 11 i) (nwC (mx [2, 9, 11, 19, 55, 56, 57, 58, fv 1 13, fv 1 14, fv 1 17] f f1)) la < 29 from by omega, ?_⟩
            refine ⟨show inr (cn + 1) from by constructor <;> omega, ?_⟩
            refine ⟨show inr (i + 1) from by constructor <;> omega, ?_⟩
            refine hB ((f (fv 10 1) 0) - (i + 1) : Int).toNat ?_ ⟨rfl, (cn + 1), f 7 (prC (f 7) (f (fv 1 16) 0) (f1 11 i) (nwC (mx [2, 9, 11, 19, 55, 56, 57, 58, fv 1 13, fv 1 14, fv 1 17] f f1)) la), (i + 1), (mx [2, 9, 19, fv 1 13] (mx [11, 56, 57, 58] (wv f1 (fv 1 17) 0 (nxt (f1 (fv 1 17) 0))) f1_21) f1_26), g1_22, rfl, rfl, (mx_mx rfl (mx_mx rfl (mx_wv rfl rfl))), rfl, ?_, ?_, ?_, ?_, ?_, ?_, ?_, ?_, ?_, ?_, ?_, ?_, ?_, ?_, ?_, ?_⟩
            · omega
            · omega
            · rw [hstep]; show cn + 1 = _ + 1; rw [hcn]
            · rw [hstep]
            · exact Or.inr ⟨_, hcr.1, hcr.2, rfl⟩
            · intro a h0 h1
              rw [hstep]
              exact (hq2 a h0 h1).trans (hbc a h0 (by omega))
            · intro t h0 h1
              rw [hstep]
              exact (hq9 t h0 h1).trans (hbc (8 + t) (by omega) (by omega))
            · rw [hstep]
              exact hq13.trans (hbc 37 (by omega) (by omega))
            · rw [hstep]
              show f1 (fv 1 14) 0 = bkN (f 7) (prD (f (fv 1 16) 0) (prI (aC f) (f 7) (f (fv 1 15) 0) (lwC f) (f 11) (f (fv 10 1) 0) (f (fv 1 16) 0) (nwC f, f 19, -1, 0) i).1) _ _ 38
              unfold bkN
              rw [up_n (by omega), up_n (by omega), up_n (by omega), ← hD 38 (by omega) (by omega)]
              rfl
            · rw [hstep]
              show _ = bkN (f 7) (prD (f (fv 1 16) 0) (prI (aC f) (f 7) (f (fv 1 15) 0) (lwC f) (f 11) (f (fv 10 1) 0) (f (fv 1 16) 0) (nwC f, f 19, -1, 0) i).1) _ _ 39
              unfold bkN
              rw [up_n (by omega), up_n (by omega), up_n (by omega), ← hD 39 (by omega) (by omega)]
              rfl
            · rw [hstep]
              exact hq19.trans hbr
            · exact hp11
            · exact hab
            · exact hplg
            · assumption
            · rw [hstep]; exact hbk
            · omega
          · have hstep := (prI_s (ab := aC f) (ow := f 7) (day := f (fv 1 15) 0) (w := lwC f) (pg := f 11) (n := (f (fv 10 1) 0)) (jl := f (fv 1 16) 0) (p := (nwC f, f 19, -1, 0)) (i := i) (by omega)).trans (prS_g hnb hcs2 hh_20)
            refine ⟨fun _ => ?_, fun h => absurd (show (0 : Int) = 0 from by decide) h⟩
            refine Or.inr ?_
            refine ⟨show inr (i + 1) from by constructor <;> omega, ?_⟩
            refine hB ((f (fv 10 1) 0) - (i + 1) : Int).toNat ?_ ⟨rfl, cn, la, (i + 1), (wv (wv f1 (fv 1 17) 0 (nxt (f1 (fv 1 17) 0))) (fv 1 14) 0 (w32 ((f1 (fv 1 14) 0) + 1))), g1, rfl, rfl, (mx_wv rfl (mx_wv rfl rfl)), rfl, ?_, ?_, ?_, ?_, ?_, ?_, ?_, ?_, ?_, ?_, ?_, ?_, ?_, ?_, ?_, ?_⟩
            · omega
            · omega
            · rw [hstep]; exact hcn
            · rw [hstep]; exact hla
            · exact hlt
            · intro a h0 h1
              rw [hstep]
              show f1 2 a = prG (prD (f (fv 1 16) 0) (prI (aC f) (f 7) (f (fv 1 15) 0) (lwC f) (f 11) (f (fv 10 1) 0) (f (fv 1 16) 0) (nwC f, f 19, -1, 0) i).1) a
              unfold prG
              rw [up_n (by omega), ← hD a h0 (by omega)]
              exact (nwC_a (f := (wv (mx [2, 9, 11, 19, 55, 56, 57, 58, fv 1 13, fv 1 14, fv 1 17] f f1) (fv 1 17) 0 (nxt (f1 (fv 1 17) 0)))) h1).symm
            · intro t h0 h1
              rw [hstep]
              show f1 9 t = prG (prD (f (fv 1 16) 0) (prI (aC f) (f 7) (f (fv 1 15) 0) (lwC f) (f 11) (f (fv 10 1) 0) (f (fv 1 16) 0) (nwC f, f 19, -1, 0) i).1) (8 + t)
              unfold prG
              rw [up_n (by omega), ← hD (8 + t) (by omega) (by omega)]
              exact (nwC_s (f := (wv (mx [2, 9, 11, 19, 55, 56, 57, 58, fv 1 13, fv 1 14, fv 1 17] f f1) (fv 1 17) 0 (nxt (f1 (fv 1 17) 0)))) h0 h1).symm
            · rw [hstep]
              show f1 (fv 1 13) 0 = prG (prD (f (fv 1 16) 0) (prI (aC f) (f 7) (f (fv 1 15) 0) (lwC f) (f 11) (f (fv 10 1) 0) (f (fv 1 16) 0) (nwC f, f 19, -1, 0) i).1) 37
              unfold prG
              rw [up_n (by omega), ← hD 37 (by omega) (by omega)]
              rfl
            · rw [hstep]
              show w32 (f1 (fv 1 14) 0 + 1) = prG (prD (f (fv 1 16) 0) (prI (aC f) (f 7) (f (fv 1 15) 0) (lwC f) (f 11) (f (fv 10 1) 0) (f (fv 1 16) 0) (nwC f, f 19, -1, 0) i).1) 38
              unfold prG
              rw [up_s, ← hD 38 (by omega) (by omega)]
              rfl
            · rw [hstep]
              show _ = prG (prD (f (fv 1 16) 0) (prI (aC f) (f 7) (f (fv 1 15) 0) (lwC f) (f 11) (f (fv 10 1) 0) (f (fv 1 16) 0) (nwC f, f 19, -1, 0) i).1) 39
              unfold prG
              rw [up_n (by omega), ← hD 39 (by omega) (by omega)]
              rfl
            · rw [hstep]; exact h19
            · exact h11
            · exact hab
            · exact hlgA
            · exact hmo1
            · rw [hstep]
              refine ⟨fun a h0 h1 => ?_, ?_⟩
              · show 0 ≤ prG (prD (f (fv 1 16) 0) (prI (aC f) (f 7) (f (fv 1 15) 0) (lwC f) (f 11) (f (fv 10 1) 0) (f (fv 1 16) 0) (nwC f, f 19, -1, 0) i).1) a ∧ prG (prD (f (fv 1 16) 0) (prI (aC f) (f 7) (f (fv 1 15) 0) (lwC f) (f 11) (f (fv 10 1) 0) (f (fv 1 16) 0) (nwC f, f 19, -1, 0) i).1) a ≤ 99999
                unfold prG
                rw [up_n (by omega), hDb a h0 h1]; exact hb.1 a h0 h1
              · show 0 ≤ prG (prD (f (fv 1 16) 0) (prI (aC f) (f 7) (f (fv 1 15) 0) (lwC f) (f 11) (f (fv 10 1) 0) (f (fv 1 16) 0) (nwC f, f 19, -1, 0) i).1) 37 ∧ prG (prD (f (fv 1 16) 0) (prI (aC f) (f 7) (f (fv 1 15) 0) (lwC f) (f 11) (f (fv 10 1) 0) (f (fv 1 16) 0) (nwC f, f 19, -1, 0) i).1) 37 ≤ 200
                unfold prG
                rw [up_n (by omega), hDc]; exact hb.2
            · omega
      · have hbl : f 11 i = 29 := by rw [← h11]; omega
        have hstep := (prI_s (ab := aC f) (ow := f 7) (day := f (fv 1 15) 0) (w := lwC f) (pg := f 11) (n := (f (fv 10 1) 0)) (jl := f (fv 1 16) 0) (p := (nwC f, f 19, -1, 0)) (i := i) (by omega)).trans (prS_b hbl)
        refine ⟨fun _ => ?_, fun h => absurd (show (0 : Int) = 0 from by decide) h⟩
        refine ⟨show inr (i + 1) from by constructor <;> omega, ?_⟩
        refine hB ((f (fv 10 1) 0) - (i + 1) : Int).toNat ?_ ⟨rfl, cn, la, (i + 1), f1, g1, rfl, rfl, rfl, rfl, ?_, ?_, ?_, ?_, ?_, ?_, ?_, ?_, ?_, ?_, ?_, ?_, ?_, ?_, ?_, ?_⟩
        · omega
        · omega
        · rw [hstep]; exact hcn
        · rw [hstep]; exact hla
        · exact hlt
        · rw [hstep]; exact h2
        · rw [hstep]; exact h9
        · rw [hstep]; exact h13
        · rw [hstep]; exact h14
        · rw [hstep]; exact h17
        · rw [hstep]; exact h19
        · exact h11
        · exact hab
        · exact hlgA
        · exact hmo1
        · rw [hstep]; exact hb
        · omega
    · rw [show i = (f (fv 10 1) 0) by omega] at hcn h2 h9 h13 h14 h17 h19
      rw [← hcn] at k0
      exact k0 f1 g1 h2 h9 ⟨h13, h14, h17⟩ h19 h11 hmo1
  · have hrw1 := hrw.1
    refine hO (k_lookOver (by omega) (show (coB f) from hcb) (fun f1_31 (hh_32 : ∀ s, 0 ≤ s → s < 29 → f1_31 55 s = b1 ((aC f) s)) => ?_))
    have hab0 := hh_32
    refine hO (k_measure_pg (by omega) (show 0 ≤ 0 ∧ 0 ≤ (f (fv 10 1) 0) from by omega) (show 0 = 0 ∨ isL (f 11) (f (fv 10 1) 0) (0 - 1) = false from Or.inl rfl) (show rowB (f (fv 10 1) 0) 60 (f 11) from hrw) (show (abOK (mx [55] f f1_31)) from hab0) (fun f1_33 (hh_34 : bit (f (fv 15 5) 0) 2 = true → ∀ j, 0 ≤ j → j < (f (fv 10 1) 0) → f1_33 56 j = lgI (aC f) (f 11) (f (fv 10 1) 0) j) (hh_35 : ∀ j, 0 ≤ j → j < 0 → f1_33 56 j = (f 56 j)) => ?_))
    have hlg0 := hh_34
    refine hF ((f (fv 10 1) 0) - 0 : Int).toNat ?_ ⟨rfl, 0, (-1), 0, (mx [56] (mx [55] f f1_31) f1_33), g, rfl, rfl, (mx_mx rfl (mx_mx rfl mx_rf)), rfl, ?_, ?_, ?_, ?_, ?_, ?_, ?_, ?_, ?_, ?_, ?_, ?_, ?_, ?_, ?_, ?_⟩
    · omega
    · omega
    · rfl
    · rfl
    · exact Or.inl rfl
    · exact fun a h0 h1 => (nwC_a h1).symm
    · exact fun t h0 h1 => (nwC_s h0 h1).symm
    · rfl
    · rfl
    · rfl
    · rfl
    · rfl
    · exact hab0
    · exact hlg0
    · exact hmo
    · exact ⟨fun a h0 h1 => by show 0 ≤ nwC f a ∧ nwC f a ≤ 99999; rw [nwC_a h1]; exact hpu a h0 h1, hro⟩
    · omega
end C26
