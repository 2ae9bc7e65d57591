/-! ===== a run of the law's code, instruction by instruction ===== -/
section RUN
variable {fa code r : Int → Int} {a b k top : Int} {vs ts ts2 : List Int}
theorem rep_eq {r' : Int → Int} {v : Int} (h : rep r vs) (h0 : r' (vs.length : Int) = v) (h1 : ∀ j, 0 ≤ j → j < (vs.length : Int) → r' j = r j) : rep r' (v :: vs) := ⟨h0, rep_up h h1⟩
theorem rst_num (hf : faok fa) (h : rst fa code a b k r top vs ts) (hk : k < b) (ht : tst (code k) ts = some ts2) (hc : 0 ≤ code k) : 0 ≤ top ∧ top < 64 ∧ ∀ r' : Int → Int, r' top = code k → (∀ j, 0 ≤ j → j < top → r' j = r j) → rst fa code a b (k + 1) r' (top + 1) (stp fa (code k) vs) ts2 := by
  obtain ⟨h1, h2, h3, h4, h5, h6, h7, h8⟩ := id h
  have hl := sok_len h5
  obtain ⟨e1, e2, e3⟩ := tst_num hc ht
  refine ⟨by omega, by omega, fun r' hr0 hr1 => rst_s hf h hk ht ?_ ?_⟩
  · rw [stp_num hc]
    exact rep_eq h7 (by rw [← h6]; exact hr0) (fun j h0 h1 => hr1 j h0 (by omega))
  · rw [stp_num hc, List.length_cons]; omega
theorem rst_ask (hf : faok fa) (h : rst fa code a b k r top vs ts) (hk : k < b) (ht : tst (code k) ts = some ts2) (hc : code k < 0) (hc9 : -9 ≤ code k) : 0 ≤ top ∧ top < 64 ∧ ∀ r' : Int → Int, r' top = fa (-1 - code k) → (∀ j, 0 ≤ j → j < top → r' j = r j) → rst fa code a b (k + 1) r' (top + 1) (stp fa (code k) vs) ts2 := by
  obtain ⟨h1, h2, h3, h4, h5, h6, h7, h8⟩ := id h
  have hl := sok_len h5
  obtain ⟨e2, e3⟩ := tst_ask hc hc9 ht
  refine ⟨by omega, by omega, fun r' hr0 hr1 => rst_s hf h hk ht ?_ ?_⟩
  · rw [stp_ask hc hc9]
    exact rep_eq h7 (by rw [← h6]; exact hr0) (fun j h0 h1 => hr1 j h0 (by omega))
  · rw [stp_ask hc hc9, List.length_cons]; omega
theorem rst_not (hf : faok fa) (h : rst fa code a b k r top vs ts) (hk : k < b) (ht : tst (code k) ts = some ts2) (hc : code k = -19) : 1 ≤ top ∧ top ≤ 64 ∧ (r (top - 1) = 0 ∨ r (top - 1) = 1) ∧ ∀ r' : Int → Int, r' (top - 1) = 1 - r (top - 1) → (∀ j, 0 ≤ j → j < top - 1 → r' j = r j) → rst fa code a b (k + 1) r' top (stp fa (code k) vs) ts2 := by
  obtain ⟨h1, h2, h3, h4, h5, h6, h7, h8⟩ := id h
  obtain ⟨q, e1, e2⟩ := tst_not (hc ▸ ht)
  obtain ⟨v, w, e3, e4, e5⟩ := sok_c (e1 ▸ h5)
  rw [e3] at h6 h7 h8
  rw [List.length_cons] at h6 h8
  have hv : r (top - 1) = v := by rw [show top - 1 = (w.length : Int) by omega]; exact h7.1
  have hs : stp fa (code k) vs = (1 - v) :: w := by rw [hc, e3, stp_not]
  have hb := e4.2.2 rfl
  refine ⟨by omega, by omega, by rw [hv]; exact hb, fun r' hr0 hr1 => rst_s hf h hk ht ?_ ?_⟩
  · rw [hs]
    exact rep_eq h7.2 (by rw [show (w.length : Int) = top - 1 by omega, hr0, hv]) (fun j h0 h1 => hr1 j h0 (by omega))
  · rw [hs, List.length_cons]; omega
theorem rst_two (hf : faok fa) (h : rst fa code a b k r top vs ts) (hk : k < b) (ht : tst (code k) ts = some ts2) (hc : code k < -9) (hn : ¬ code k = -19) : 2 ≤ top ∧ top ≤ 64 ∧ inr (r (top - 1 - 1)) ∧ inr (r (top - 1)) ∧ -18 ≤ code k ∧ (code k = -13 → 1 ≤ r (top - 1)) ∧ (code k = -17 ∨ code k = -18 → (r (top - 1 - 1) = 0 ∨ r (top - 1 - 1) = 1) ∧ (r (top - 1) = 0 ∨ r (top - 1) = 1)) ∧ ∀ r' : Int → Int, r' (top - 1 - 1) = op2 (code k) (r (top - 1 - 1)) (r (top - 1)) → (∀ j, 0 ≤ j → j < top - 1 - 1 → r' j = r j) → rst fa code a b (k + 1) r' (top - 1) (stp fa (code k) vs) ts2 := by
  obtain ⟨h1, h2, h3, h4, h5, h6, h7, h8⟩ := id h
  obtain ⟨e0, tb, ta, q, t, e1, e2, h13, h17, hv⟩ := tst_two hc hn ht
  obtain ⟨y, w1, e3, e4, e5⟩ := sok_c (e1 ▸ h5)
  obtain ⟨x, w, e6, e7, e8⟩ := sok_c e5
  subst e6
  rw [e3] at h6 h7 h8
  simp only [List.length_cons] at h6 h8
  have hy : r (top - 1) = y := by
    have := h7.1
    rw [List.length_cons] at this
    rw [show top - 1 = ((w.length + 1 : Nat) : Int) by omega]; exact this
  have hx : r (top - 1 - 1) = x := by rw [show top - 1 - 1 = (w.length : Int) by omega]; exact h7.2.1
  have hs : stp fa (code k) vs = op2 (code k) x y :: w := by rw [e3, stp_two hc hn]
  rw [hx, hy]
  refine ⟨by omega, by omega, e7.1, e4.1, e0, fun e => e4.2.1 (h13 e), fun e => ⟨e7.2.2 (h17 e).2, e4.2.2 (h17 e).1⟩, fun r' hr0 hr1 => rst_s hf h hk ht ?_ ?_⟩
  · rw [hs]
    exact rep_eq h7.2.2 (by rw [show (w.length : Int) = top - 1 - 1 by omega]; exact hr0) (fun j h0 h1 => hr1 j h0 (by omega))
  · rw [hs, List.length_cons]; omega
theorem rst_end {t : Int} (h : rst fa code a b k r top vs ts) (hk : k = b) (hw : tyl (sl code a b) [] = some [t]) : top = 1 ∧ r 0 = hdv (ev fa (sl code a b) []) := by
  obtain ⟨h1, h2, h3, h4, h5, h6, h7, h8⟩ := h
  subst hk
  rw [h4] at hw
  have e : ts = [t] := Option.some.inj hw
  obtain ⟨v, w, e3, e4, e5⟩ := sok_c (e ▸ h5)
  cases w with
  | cons _ _ => exact e5.elim
  | nil =>
    rw [← h3, e3]
    rw [e3] at h6 h7
    exact ⟨h6, h7.1⟩
end RUN
