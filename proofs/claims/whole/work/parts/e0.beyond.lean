/-! ===== what lies beyond the cells is 0 ===== -/
def zZ (T : x_T) : Prop := ∀ c k, T.1.length ≤ c → T.2.1 c k = 0
theorem z_up {A : Nat → Nat → Int32} {c c' : Nat} {h : Nat → Int32} (e : ¬ c' = c) : va_up A c h c' = A c' := by unfold va_up; rw [if_neg e]
theorem z_lt {l : List x_S} {a : Nat} {s : x_S} (h : l[a]? = some s) : a < l.length := by
  obtain ⟨h1, -⟩ := List.getElem?_eq_some_iff.mp h
  exact h1
theorem z_si {T : x_T} {a k : Nat} {v : Int32} {s : x_S} (h : zZ T) (ha : T.1[a]? = some s) : zZ (x_si T a k v) := by
  intro c j hc
  have := z_lt ha
  have hc : T.1.length ≤ c := hc
  show va_up T.2.1 a _ c j = 0
  rw [z_up (by omega)]; exact h c j hc
theorem z_sf {T : x_T} {a : Nat} {F : Nat → Int32} {s : x_S} (h : zZ T) (ha : T.1[a]? = some s) : zZ (x_sf T a F) := by
  intro c j hc
  have := z_lt ha
  have hc : T.1.length ≤ c := hc
  show va_up T.2.1 a _ c j = 0
  rw [z_up (by omega)]; exact h c j hc
theorem z_sl {T : x_T} {a k : Nat} {v : Int64} (h : zZ T) : zZ (x_sl T a k v) := h
theorem z_sr {T : x_T} {a ci k d : Nat} {fs : List (Option Nat)} (h : zZ T) : zZ (x_sr T a ci k fs d) := by
  intro c j hc
  have hc : (T.1.set a (.inr (ci, fs.set k (some (d + 1))))).length ≤ c := hc
  rw [List.length_set] at hc
  exact h c j hc
theorem z_new {T : x_T} {s : x_S} (h : zZ T) : zZ (x_new T s) := by
  intro c j hc
  have hc : (T.1 ++ [s]).length ≤ c := hc
  rw [List.length_append] at hc
  have hc : T.1.length + 1 ≤ c := hc
  show va_up T.2.1 T.1.length _ c j = 0
  rw [z_up (by omega)]; exact h c j (by omega)
theorem z_g {b : Bool} {z : x_Z} {q : Option Value × x_T} (h : x_g b z = some q) : z = some q := by
  cases b with
  | true => exact h
  | false => cases h
set_option maxHeartbeats 4000000 in
theorem z_s1 {XT : x_Xt} {i : Instr} {lv : x_L} {st : List Value} {T : x_T} {K : x_L → List Value → x_T → x_Z} {q : Option Value × x_T} (hZ : zZ T) (hK : ∀ lv st T', zZ T' → K lv st T' = some q → zZ q.2) (h : x_s1 XT i lv st T K = some q) : zZ q.2 := by
  unfold x_s1 at h
  split at h
  all_goals (repeat' split at h)
  all_goals (first
    | exact hK _ _ _ hZ h
    | exact hK _ _ _ hZ (z_g h)
    | (cases h; done)
    | exact hK _ _ _ (z_si hZ (by assumption)) h
    | exact hK _ _ _ (z_sl hZ) h
    | exact hK _ _ _ (z_sf hZ (by assumption)) h
    | exact hK _ _ _ (z_new hZ) (z_g h)
    | exact hK _ _ _ (z_sr hZ) (z_g h)
    | (have h2 := z_g h; cases h2; done)
    | exact hK _ _ _ (z_si hZ (by assumption)) (z_g (z_g h)))
set_option maxHeartbeats 4000000 in
theorem z_ev {XT : x_Xt} {O : Nat → List Value → x_T → x_Z} {B : Nat → x_L → x_T → x_Z} {code : List Instr} {q : Option Value × x_T} (hO : ∀ μ vs T p, O μ vs T = some p → zZ T → zZ p.2) (hB : ∀ j lv T, B j lv T = some q → zZ T → zZ q.2) : ∀ (k : Nat) (rest : List Instr) (lv : x_L) (st : List Value) (T : x_T), x_ev kE XT O B code k rest lv st T = some q → zZ T → zZ q.2 := by
  intro k
  induction k with
  | zero => intro rest lv st T h _; cases h
  | succ k ih =>
    intro rest lv st T h hZ
    cases rest with
    | nil => cases h
    | cons i rest =>
      have bd : ∀ {μ : Nat} {vs : List Value} {K : Option Value → x_T → x_Z}, x_bd (O μ vs T) K = some q → (∀ v T', zZ T' → K v T' = some q → zZ q.2) → zZ q.2 := fun hb hK => by
        obtain ⟨v, T', e1, e2⟩ := x_bd_some hb
        exact hK v T' (hO _ _ _ _ e1 hZ) e2
      unfold x_ev at h
      split at h
      all_goals (repeat' split at h)
      all_goals (first
        | exact ih _ _ _ _ h hZ
        | exact hB _ _ _ h hZ
        | (cases h; done)
        | (cases h; exact hZ)
        | (have h2 := z_g h; cases h2; exact hZ)
        | exact ih _ _ _ _ (z_g h) (z_new hZ)
        | exact bd (z_g h) (fun v T' hT h3 => ih _ _ _ _ h3 hT)
        | exact z_s1 hZ (fun lv st T' hT h3 => ih _ _ _ _ h3 hT) h)
theorem z_lp {XT : x_Xt} {O : Nat → List Value → x_T → x_Z} {code : List Instr} {k : Nat} {q : Option Value × x_T} (hO : ∀ μ vs T p, O μ vs T = some p → zZ T → zZ p.2) : ∀ (n j : Nat) (lv : x_L) (T : x_T), x_lp kE XT O code k n j lv T = some q → zZ T → zZ q.2
  | 0, _, _, _, h, _ => by cases h
  | n + 1, j, lv, T, h, hZ => z_ev hO (fun j lv T h hZ => z_lp hO n j lv T h hZ) k _ lv [] T h hZ
theorem z_so {μ : Nat} {vs : List Value} {T : x_T} {p : Option Value × x_T} (h : kSO μ vs T = some p) (hZ : zZ T) : zZ p.2 := by
  unfold kSO at h
  repeat' split at h
  all_goals (first
    | (cases h; done)
    | (cases h; exact hZ))
theorem z_P : ∀ (d μ : Nat) (vs : List Value) (T : x_T) (p : Option Value × x_T), x_P kE kSO 700 4000 d μ vs T = some p → zZ T → zZ p.2
  | 0, _, _, _, _, h, _ => by cases h
  | d + 1, μ, vs, T, p, h, hZ => by
    rw [x_P] at h
    split at h
    · split at h
      · exact z_so h hZ
      · cases h
    · split at h
      · exact z_ev (fun μ vs T p h hZ => z_P d μ vs T p h hZ) (fun j lv T h hZ => z_lp (fun μ vs T p h hZ => z_P d μ vs T p h hZ) _ _ _ _ h hZ) _ _ _ _ _ h hZ
      · cases h
theorem zB_e : zB = some (none, zB2) := by
  have h1 := z_B1
  have h2 := z_B2
  unfold zB2
  generalize zB = z at *
  cases z with
  | none => cases h1
  | some p => exact congrArg some (Prod.ext h2 rfl)
theorem zC_e : zC = some (none, zT) := by
  have h1 := z_C1
  have h2 := z_C2
  unfold zT
  generalize zC = z at *
  cases z with
  | none => cases h1
  | some p => exact congrArg some (Prod.ext h2 rfl)
theorem zB_p : x_P kE kSO 700 4000 60 185 [.ref 0] zA = some (none, zB2) := by
  have e := zB_e
  unfold zB at e
  exact e
theorem zC_p : x_P kE kSO 700 4000 60 0 [.ref 79] (x_new zB2 (.inr (0, kE.1 0))) = some (none, zT) := by
  have e := zC_e
  unfold zC at e
  exact e
theorem z_P2 {d μ : Nat} {vs : List Value} {T T' : x_T} {v : Option Value} (h : x_P kE kSO 700 4000 d μ vs T = some (v, T')) (hZ : zZ T) : zZ T' := z_P d μ vs T (v, T') h hZ
theorem zA_z : zZ zA := by
  unfold zA
  exact z_new (fun _ _ _ => rfl)
theorem zB_z : zZ zB2 := z_P2 zB_p zA_z
theorem zT_z : zZ zT := z_P2 zC_p (z_new zB_z)
