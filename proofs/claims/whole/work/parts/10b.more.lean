section X10b
variable {E : x_E} {O : Nat → List Value → x_T → x_Z} {B : Nat → x_L → x_T → x_Z} {q : Option Value × x_T} {code : List Instr}
theorem x_mo_rf (T : x_T) : x_mo T T := ⟨Nat.le_refl _, Nat.le_refl _⟩
theorem x_mo_tr {T U V : x_T} (h : x_mo T U) (g : x_mo U V) : x_mo T V := ⟨Nat.le_trans h.1 g.1, Nat.le_trans h.2 g.2⟩
theorem x_mo_new (T : x_T) (sh : x_S) : x_mo T (x_new T sh) := ⟨by simp [x_new], by simp [x_new, x_z_app]⟩
theorem x_mo_sr {T : x_T} {a ci k d : Nat} {o : Nat × List (Option Nat)} (h : T.1[a]? = some (.inr o)) : x_mo T (x_sr T a ci k o.2 d) := by
  refine ⟨by simp [x_sr], ?_⟩
  simp only [x_sr]
  rw [x_z_set h (by simp [x_z1])]
  exact Nat.le_refl _
set_option maxHeartbeats 4000000 in
theorem x_s1_mo {XT : x_Xt} {i : Instr} {lv : x_L} {st : List Value} {T : x_T} {K : x_L → List Value → x_T → x_Z} (hK : ∀ lv st T', K lv st T' = some q → x_mo T' q.2) (h : x_s1 XT i lv st T K = some q) : x_mo T q.2 := by
  unfold x_s1 at h
  split at h
  all_goals (repeat' (first | split at h | (replace h := (x_g_some h).2)))
  all_goals first
    | (cases h; done)
    | exact hK _ _ _ h
    | exact x_mo_tr (x_mo_new _ _) (hK _ _ _ h)
    | exact ⟨(hK _ _ _ h).1, (hK _ _ _ h).2⟩
    | (rename_i o h1; exact x_mo_tr (x_mo_sr h1) (hK _ _ _ h))
set_option maxHeartbeats 4000000 in
theorem x_ev_mo {XT : x_Xt} (hO : ∀ μ vs T q', O μ vs T = some q' → x_mo T q'.2) (hB : ∀ j lv T, B j lv T = some q → x_mo T q.2) : ∀ (k : Nat) (rest : List Instr) (lv : x_L) (st : List Value) (T : x_T), x_ev E XT O B code k rest lv st T = some q → x_mo T q.2 := by
  intro k
  induction k with
  | zero => intro rest lv st T h; simp [x_ev] at h
  | succ k ih =>
    intro rest lv st T h
    cases rest with
    | nil => simp [x_ev] at h
    | cons i rest =>
      unfold x_ev at h
      split at h
      all_goals (repeat' (first | split at h | (replace h := (x_g_some h).2)))
      all_goals first
        | (cases h; done)
        | exact ih _ _ _ _ h
        | exact hB _ _ _ h
        | (cases h; exact x_mo_rf _)
        | exact x_mo_tr (x_mo_new _ _) (ih _ _ _ _ h)
        | (obtain ⟨v, T1, h1, h⟩ := x_bd_some h; exact x_mo_tr (hO _ _ _ _ h1) (ih _ _ _ _ h))
        | exact x_s1_mo (fun _ _ _ h => ih _ _ _ _ h) h
theorem x_P_mo {SO : Nat → List Value → x_T → x_Z} (hSO : ∀ μ vs T q, SO μ vs T = some q → x_mo T q.2) (k n : Nat) : ∀ (d μ : Nat) (vs : List Value) (T : x_T) (q : Option Value × x_T), x_P E SO k n d μ vs T = some q → x_mo T q.2 := by
  intro d
  induction d with
  | zero => intro μ vs T q h; simp [x_P] at h
  | succ d ih =>
    intro μ vs T q h
    simp only [x_P] at h
    split at h
    · split at h
      · exact hSO _ _ _ _ h
      · cases h
    split at h
    · have hB : ∀ (n' j : Nat) (lv : x_L) (T' : x_T), x_lp E x_nx (x_P E SO k n d) (E.2.2.2 μ) k n' j lv T' = some q → x_mo T' q.2 := by
        intro n'
        induction n' with
        | zero => intro j lv T' h; simp [x_lp] at h
        | succ n' ihn =>
          intro j lv T' h
          simp only [x_lp] at h
          exact x_ev_mo ih ihn _ _ _ _ _ h
      exact x_ev_mo ih (hB n) _ _ _ _ _ h
    · cases h
end X10b
