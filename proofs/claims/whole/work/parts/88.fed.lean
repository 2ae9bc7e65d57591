/-! ===== fed, by needs or by bread ===== -/
theorem fd_al {ab : Int → Bool} {ow r ls br st bu : Int → Int} {day n crew : Int} {w : Lw} (hn : 0 ≤ n ∧ n ≤ 60) (hc : crew ≤ 8) (h : ∀ o, 0 ≤ o → o < 8 → lsP st bu ow br crew o (ls o)) : fdP ls ab ow day w r n ↔ alE ab ow day w br st bu crew r n := by
  constructor
  · intro H a a0 a1 hm
    rcases h a a0 (by omega) with ⟨_, _, e⟩ | ⟨e, _⟩
    · rw [← e]; exact H a a0 (by omega)
    · exact absurd ⟨a1, hm⟩ e
  · intro H o o0 o1
    rcases h o o0 o1 with ⟨a, b, e⟩ | ⟨_, e⟩
    · rw [e]; exact H o o0 a b
    · rw [e]; exact (enI_r hn).1
theorem fd_cg {ab : Int → Bool} {ow r r' ls : Int → Int} {day n : Int} {w : Lw} (h : ∀ k, 0 ≤ k → k < n → r k = r' k) (H : fdP ls ab ow day w r n) : fdP ls ab ow day w r' n := fun o o0 o1 => by
  rw [← enI_cg h]
  exact H o o0 o1
theorem up_cg {r r' : Int → Int} {n q v : Int} (h : ∀ k, 0 ≤ k → k < n → r k = r' k) : ∀ k, 0 ≤ k → k < n → up r q v k = up r' q v k := by
  intro k k0 k1
  by_cases e : k = q
  · rw [e, up_s, up_s]
  · rw [up_n e, up_n e, h k k0 k1]
