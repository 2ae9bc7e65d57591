/-! ===== helpers for contracts ===== -/
theorem wq_mono {d μ : Nat} {vs : List iv} {f : iF} {g : iG} {Q R : Option iv → iF → iG → Prop} (h : wq d μ vs f g Q) (hr : ∀ v f' g', Q v f' g' → R v f' g') : wq d μ vs f g R := by
  intro h1 h2
  obtain ⟨v, f', g', e, a, b, c⟩ := h h1 h2
  exact ⟨v, f', g', e, a, b, hr _ _ _ c⟩
theorem wv_o {f : iF} {c c' : Nat} {k v : Int} (h : c' ≠ c) : wv f c k v c' = f c' := by
  funext k'
  unfold wv
  rw [if_neg (fun e => h e.1)]
theorem wv_s {f : iF} {c : Nat} {k v : Int} : wv f c k v c k = v := by
  unfold wv
  rw [if_pos ⟨rfl, rfl⟩]
theorem wv_k {f : iF} {c : Nat} {k k' v : Int} (h : ¬ k' = k) : wv f c k v c k' = f c k' := by
  unfold wv
  rw [if_neg (fun e => h e.2)]
theorem wv_i {f : iF} {c : Nat} {k k' v : Int} : wv f c k v c k' = if k' = k then v else f c k' := by
  unfold wv
  by_cases h : k' = k
  · rw [if_pos ⟨rfl, h⟩, if_pos h]
  · rw [if_neg (fun e => h e.2), if_neg h]
theorem acp_o {f : iF} {a b c' : Nat} {sp dp n : Int} (h : c' ≠ b) : acp f a b sp dp n c' = f c' := by
  funext k'
  unfold acp
  rw [if_neg (fun e => h e.1)]
theorem acp_i {f : iF} {a b : Nat} {sp dp n k : Int} : acp f a b sp dp n b k = if dp ≤ k ∧ k < dp + n then f a (sp + (k - dp)) else f b k := by
  unfold acp
  by_cases h : dp ≤ k ∧ k < dp + n
  · rw [if_pos ⟨rfl, h⟩, if_pos h]
  · rw [if_neg (fun e => h e.2), if_neg h]
/-- nothing but the cells S changed -/
def eqx (S : List Nat) (f f' : iF) : Prop := ∀ c, c ∉ S → f' c = f c
theorem eqx_rf {S : List Nat} {f : iF} : eqx S f f := fun _ _ => rfl
theorem eqx_tr {S : List Nat} {f f' f'' : iF} (h : eqx S f f') (h2 : eqx S f' f'') : eqx S f f'' := fun c hc => (h2 c hc).trans (h c hc)
theorem eqx_wv {S : List Nat} {f f' : iF} {c : Nat} {k v : Int} (h : eqx S f f') (hc : c ∈ S) : eqx S f (wv f' c k v) := by
  intro c' h'
  have hne : c' ≠ c := by intro e; subst e; exact h' hc
  rw [wv_o hne, h c' h']
theorem eqx_acp {S : List Nat} {f f' : iF} {a b : Nat} {sp dp n : Int} (h : eqx S f f') (hc : b ∈ S) : eqx S f (acp f' a b sp dp n) := by
  intro c' h'
  have hne : c' ≠ b := by intro e; subst e; exact h' hc
  rw [acp_o hne, h c' h']
theorem eqx_sub {S S' : List Nat} {f f' : iF} (h : eqx S f f') (hs : ∀ c ∈ S, c ∈ S') : eqx S' f f' := fun c hc => h c (fun h2 => hc (hs c h2))
