/-! ===== the words of the promises: sums, rows, facts, the law's code ===== -/
def sm (h : Int → Int) : Nat → Int
  | 0 => 0
  | n + 1 => sm h n + h (n : Int)
/-- the sum over 0 .. n - 1 -/
def sI (h : Int → Int) (n : Int) : Int := sm h n.toNat
theorem sI_0 (h : Int → Int) : sI h 0 = 0 := rfl
theorem sI_s {h : Int → Int} {i : Int} (hi : 0 ≤ i) : sI h (i + 1) = sI h i + h i := by
  unfold sI
  rw [show (i + 1).toNat = i.toNat + 1 by omega, sm, show ((i.toNat : Nat) : Int) = i by omega]
theorem sm_congr {h h' : Int → Int} : ∀ n : Nat, (∀ k : Int, 0 ≤ k → k < n → h k = h' k) → sm h n = sm h' n
  | 0, _ => rfl
  | n + 1, e => by
    rw [sm, sm, sm_congr n (fun k h0 h1 => e k h0 (by omega)), e n (by omega) (by omega)]
theorem sI_congr {h h' : Int → Int} {n : Int} (e : ∀ k : Int, 0 ≤ k → k < n → h k = h' k) : sI h n = sI h' n := sm_congr _ (fun k h0 h1 => e k h0 (by omega))
theorem sm_le {h : Int → Int} {c : Int} (hc : 0 ≤ c) : ∀ n : Nat, (∀ k : Int, 0 ≤ k → k < n → 0 ≤ h k ∧ h k ≤ c) → 0 ≤ sm h n ∧ sm h n ≤ c * n
  | 0, _ => by simp [sm]
  | n + 1, e => by
    have h1 := sm_le hc n (fun k h0 h1 => e k h0 (by omega))
    have h2 := e n (by omega) (by omega)
    rw [sm]
    have : c * ((n + 1 : Nat) : Int) = c * n + c := by rw [Int.natCast_add, Int.mul_add]; simp
    omega
theorem sI_le {h : Int → Int} {n c : Int} (hc : 0 ≤ c) (hn : 0 ≤ n) (e : ∀ k : Int, 0 ≤ k → k < n → 0 ≤ h k ∧ h k ≤ c) : 0 ≤ sI h n ∧ sI h n ≤ c * n := by
  have := sm_le hc n.toNat (fun k h0 h1 => e k h0 (by omega))
  rw [show ((n.toNat : Nat) : Int) = n by omega] at this
  exact this
/-- how often p is so among 0 .. n - 1 -/
def cI (p : Int → Bool) (n : Int) : Int := sI (fun k => if p k = true then 1 else 0) n
theorem cI_0 (p : Int → Bool) : cI p 0 = 0 := rfl
theorem cI_s {p : Int → Bool} {i : Int} (hi : 0 ≤ i) : cI p (i + 1) = cI p i + (if p i = true then 1 else 0) := sI_s hi
theorem cI_t {p : Int → Bool} {i : Int} (hi : 0 ≤ i) (h : p i = true) : cI p (i + 1) = cI p i + 1 := by rw [cI_s hi, if_pos h]
theorem cI_f {p : Int → Bool} {i : Int} (hi : 0 ≤ i) (h : p i = false) : cI p (i + 1) = cI p i := by rw [cI_s hi, h]; simp
theorem cI_le {p : Int → Bool} {n : Int} (hn : 0 ≤ n) : 0 ≤ cI p n ∧ cI p n ≤ n := by
  have := sI_le (h := fun k => if p k = true then 1 else 0) (n := n) (c := 1) (by omega) hn (fun k _ _ => by show 0 ≤ (if p k = true then (1 : Int) else 0) ∧ (if p k = true then (1 : Int) else 0) ≤ 1; split <;> omega)
  unfold cI
  omega
theorem cI_congr {p q : Int → Bool} {n : Int} (e : ∀ k : Int, 0 ≤ k → k < n → p k = q k) : cI p n = cI q n := sI_congr (fun k h0 h1 => by rw [e k h0 h1])
/-- a sign can be printed -/
def abl (bu ow st : Int → Int) (s : Int) : Bool := decide (0 ≤ s ∧ s < 29 ∧ bu s = 0 ∧ 0 ≤ ow s ∧ st (ow s) = 0)
theorem abl_t {bu ow st : Int → Int} {s : Int} : abl bu ow st s = true ↔ (0 ≤ s ∧ s < 29 ∧ bu s = 0 ∧ 0 ≤ ow s ∧ st (ow s) = 0) := by unfold abl; exact decide_eq_true_iff
theorem abl_f {bu ow st : Int → Int} {s : Int} : abl bu ow st s = false ↔ ¬ (0 ≤ s ∧ s < 29 ∧ bu s = 0 ∧ 0 ≤ ow s ∧ st (ow s) = 0) := by unfold abl; exact decide_eq_false_iff_not
theorem abl_eq {bu ow st bu' ow' st' : Int → Int} (h1 : ∀ s, 0 ≤ s → s < 29 → bu s = bu' s ∧ ow s = ow' s) (h2 : ∀ s, 0 ≤ s → s < 29 → 0 ≤ ow s → st (ow s) = st' (ow s)) : abl bu ow st = abl bu' ow' st' := by
  funext s
  by_cases hs : 0 ≤ s ∧ s < 29
  · obtain ⟨e1, e2⟩ := h1 s hs.1 hs.2
    have e3 := h2 s hs.1 hs.2
    unfold abl
    rw [← e1, ← e2]
    by_cases ho : 0 ≤ ow s
    · rw [← e3 ho]
    · rw [decide_eq_false (fun h => ho h.2.2.2.1), decide_eq_false (fun h => ho h.2.2.2.1)]
  · rw [abl_f.mpr (fun h => hs ⟨h.1, h.2.1⟩), abl_f.mpr (fun h => hs ⟨h.1, h.2.1⟩)]
/-- a letter at place i of a row of n -/
def isL (row : Int → Int) (n i : Int) : Bool := decide (0 ≤ i ∧ i < n ∧ row i < 26)
theorem isL_t {row : Int → Int} {n i : Int} : isL row n i = true ↔ (0 ≤ i ∧ i < n ∧ row i < 26) := by unfold isL; exact decide_eq_true_iff
theorem isL_f {row : Int → Int} {n i : Int} : isL row n i = false ↔ ¬ (0 ≤ i ∧ i < n ∧ row i < 26) := by unfold isL; exact decide_eq_false_iff_not
def b1 (b : Bool) : Int := if b = true then 1 else 0
theorem b1_t : b1 true = 1 := rfl
theorem b1_f : b1 false = 0 := rfl
theorem b1_01 (b : Bool) : 0 ≤ b1 b ∧ b1 b ≤ 1 := by cases b <;> decide
/-- letters that can be printed, just ahead of place i -/
def lwN (ab : Int → Bool) (row : Int → Int) (n : Int) : Nat → Int
  | 0 => 0
  | i + 1 => if isL row n (i : Int) = true then lwN ab row n i + b1 (ab (row (i : Int))) else 0
def lwI (ab : Int → Bool) (row : Int → Int) (n i : Int) : Int := lwN ab row n i.toNat
/-- letters that can be printed, from place i on -/
def rrN (ab : Int → Bool) (row : Int → Int) (n : Int) : Nat → Int → Int
  | 0, _ => 0
  | m + 1, i => if isL row n i = true then b1 (ab (row i)) + rrN ab row n m (i + 1) else 0
def rrI (ab : Int → Bool) (row : Int → Int) (n i : Int) : Int := rrN ab row n (n - i).toNat i
section LR
variable {ab : Int → Bool} {row : Int → Int} {n i : Int}
theorem lwI_0 : lwI ab row n 0 = 0 := rfl
theorem lwI_t (hi : 0 ≤ i) (h : isL row n i = true) : lwI ab row n (i + 1) = lwI ab row n i + b1 (ab (row i)) := by
  unfold lwI
  rw [show (i + 1).toNat = i.toNat + 1 by omega, lwN, show ((i.toNat : Nat) : Int) = i by omega, if_pos h]
theorem lwI_f (hi : 0 ≤ i) (h : isL row n i = false) : lwI ab row n (i + 1) = 0 := by
  unfold lwI
  rw [show (i + 1).toNat = i.toNat + 1 by omega, lwN, show ((i.toNat : Nat) : Int) = i by omega, if_neg (by rw [h]; decide)]
theorem rrI_t (h : isL row n i = true) : rrI ab row n i = b1 (ab (row i)) + rrI ab row n (i + 1) := by
  have h' := isL_t.mp h
  unfold rrI
  rw [show (n - i).toNat = (n - (i + 1)).toNat + 1 by omega, rrN, if_pos h]
theorem rrI_f (h : isL row n i = false) : rrI ab row n i = 0 := by
  unfold rrI
  cases (n - i).toNat with
  | zero => rfl
  | succ m => rw [rrN, if_neg (by rw [h]; decide)]
/-- how many letters of its word can be printed -/
def lgI (ab : Int → Bool) (row : Int → Int) (n i : Int) : Int := if isL row n i = true then lwI ab row n i + rrI ab row n i else 0
theorem tot_s (hi : 0 ≤ i) (h : isL row n i = true) : lwI ab row n i + rrI ab row n i = lwI ab row n (i + 1) + rrI ab row n (i + 1) := by
  rw [lwI_t hi h, rrI_t h]; omega
/-- along letters a .. b the sum stays -/
theorem tot_run {a : Int} (ha : 0 ≤ a) : ∀ (m : Nat) (b : Int), b = a + m → (∀ k, a ≤ k → k < b → isL row n k = true) → lwI ab row n a + rrI ab row n a = lwI ab row n b + rrI ab row n b := by
  intro m
  induction m with
  | zero => intro b hb _; rw [show b = a by omega]
  | succ m ih =>
    intro b hb h
    rw [ih (b - 1) (by omega) (fun k h1 h2 => h k h1 (by omega)), tot_s (by omega) (h (b - 1) (by omega) (by omega)), show b - 1 + 1 = b by omega]
theorem lwI_le (hn : ∀ k, ab k = true ∨ ab k = false) : ∀ m : Nat, 0 ≤ lwI ab row n m ∧ lwI ab row n m ≤ m := by
  intro m
  induction m with
  | zero => rw [show ((0 : Nat) : Int) = 0 from rfl, lwI_0]; omega
  | succ m ih =>
    have hb := b1_01 (ab (row (m : Int)))
    rw [show (((m + 1 : Nat)) : Int) = (m : Int) + 1 by omega]
    cases h : isL row n (m : Int) with
    | true => rw [lwI_t (by omega) h]; omega
    | false => rw [lwI_f (by omega) h]; omega
theorem rrI_le : ∀ (m : Nat) (i : Int), n - i = m → 0 ≤ rrI ab row n i ∧ rrI ab row n i ≤ m := by
  intro m
  induction m with
  | zero =>
    intro i hi
    rw [rrI_f (isL_f.mpr (by omega))]
    omega
  | succ m ih =>
    intro i hi
    cases h : isL row n i with
    | true =>
      have := ih (i + 1) (by omega)
      have hb := b1_01 (ab (row i))
      rw [rrI_t h]
      omega
    | false => rw [rrI_f h]; omega
theorem lgI_le (hn : 0 ≤ n) : 0 ≤ lgI ab row n i ∧ lgI ab row n i ≤ n := by
  unfold lgI
  split
  · rename_i h
    have h' := isL_t.mp h
    have h1 := lwI_le (ab := ab) (row := row) (n := n) (fun k => by cases ab k <;> simp) i.toNat
    have h2 := rrI_le (ab := ab) (row := row) (n := n) (n - i).toNat i (by omega)
    rw [show ((i.toNat : Nat) : Int) = i by omega] at h1
    omega
  · omega
end LR
/-- how often the sign at place i is ahead of it -/
def usI (row : Int → Int) (i : Int) : Int := cI (fun k => decide (row k = row i)) i
def vwl (s : Int) : Bool := decide (s = 0 ∨ s = 4 ∨ s = 8 ∨ s = 14 ∨ s = 20)
/-- the sign just ahead, if it can be printed, else 29 -/
def lfI (ab : Int → Bool) (row : Int → Int) (i : Int) : Int := if 0 < i ∧ ab (row (i - 1)) = true then row (i - 1) else 29
def fsI (row : Int → Int) (n i : Int) : Int := b1 (isL row n i && !isL row n (i - 1))
/-- the facts of the sign at place i -/
def fct (ab : Int → Bool) (ow : Int → Int) (day : Int) (row : Int → Int) (n i : Int) : Int → Int := fun k =>
  if k = 0 then row i else if k = 1 then i else if k = 2 then lgI ab row n i else if k = 3 then usI row i else if k = 4 then b1 (vwl (row i)) else if k = 5 then (if ow (row i) = -1 then 9 else ow (row i)) else if k = 6 then day else if k = 7 then lfI ab row i else fsI row n i
/-! the law's code -/
def op2 (c a b : Int) : Int := if c = -10 then w32 (a + b) else if c = -11 then w32 (a - b) else if c = -12 then w32 (a * b) else if c = -13 then a.tdiv b else if c = -14 then (if a < b then 1 else 0) else if c = -15 then (if a = b then 1 else 0) else if c = -16 then (if b < a then 1 else 0) else if c = -17 then a * b else if 0 < a + b then 1 else 0
def stp (fa : Int → Int) (c : Int) (s : List Int) : List Int := if 0 ≤ c then c :: s else if -9 ≤ c then fa (-1 - c) :: s else if c = -19 then (match s with
  | b :: r => (1 - b) :: r
  | [] => []) else (match s with
  | b :: a :: r => op2 c a b :: r
  | _ => [])
def ev (fa : Int → Int) (l : List Int) (s : List Int) : List Int := l.foldl (fun s c => stp fa c s) s
def hdv (l : List Int) : Int := match l with
  | a :: _ => a
  | [] => 0
/-- types: 0 a number above 0, 1 a product, 2 a sum, 3 a claim -/
def tst (c : Int) (s : List Int) : Option (List Int) :=
  if 0 ≤ c then (if c ≤ 9999 ∧ s.length < 64 then some ((if c = 0 then 1 else 0) :: s) else none)
  else if -9 ≤ c then (if s.length < 64 then some (1 :: s) else none)
  else if c = -19 then (match s with
    | b :: r => if b = 3 then some (3 :: r) else none
    | [] => none)
  else (match s with
    | b :: a :: r =>
      if c = -10 ∨ c = -11 then (if b ≤ 1 ∧ a ≤ 2 then some (2 :: r) else none)
      else if c = -12 then (if b ≤ 1 ∧ a ≤ 1 then some (1 :: r) else none)
      else if c = -13 then (if b = 0 ∧ a ≤ 1 then some (1 :: r) else none)
      else if c = -14 ∨ c = -15 ∨ c = -16 then (if b ≤ 2 ∧ a ≤ 2 then some (3 :: r) else none)
      else if c = -17 ∨ c = -18 then (if b = 3 ∧ a = 3 then some (3 :: r) else none)
      else none
    | _ => none)
def tyl (l : List Int) (s : List Int) : Option (List Int) := l.foldl (fun o c => o.bind (tst c)) (some s)
/-- a slice of a row -/
def slN (c : Int → Int) : Nat → Int → List Int
  | 0, _ => []
  | m + 1, a => c a :: slN c m (a + 1)
def sl (c : Int → Int) (a b : Int) : List Int := slN c (b - a).toNat a
theorem sl_nil {c : Int → Int} {a b : Int} (h : b ≤ a) : sl c a b = [] := by
  unfold sl
  rw [show (b - a).toNat = 0 by omega]; rfl
theorem slN_app (c : Int → Int) : ∀ (m : Nat) (a : Int), slN c (m + 1) a = slN c m a ++ [c (a + m)]
  | 0, a => by simp [slN]
  | m + 1, a => by
    rw [slN, slN_app c m (a + 1), slN]
    simp only [List.cons_append]
    rw [show a + 1 + (m : Int) = a + ((m + 1 : Nat) : Int) by omega]
theorem sl_s {c : Int → Int} {a b : Int} (h : a ≤ b) : sl c a (b + 1) = sl c a b ++ [c b] := by
  unfold sl
  rw [show (b + 1 - a).toNat = (b - a).toNat + 1 by omega, slN_app, show a + (((b - a).toNat : Nat) : Int) = b by omega]
theorem sl_cons {c : Int → Int} {a b : Int} (h : a < b) : sl c a b = c a :: sl c (a + 1) b := by
  unfold sl
  rw [show (b - a).toNat = (b - (a + 1)).toNat + 1 by omega, slN]
theorem slN_congr {c c' : Int → Int} : ∀ (m : Nat) (a : Int), (∀ k, a ≤ k → k < a + m → c k = c' k) → slN c m a = slN c' m a
  | 0, _, _ => rfl
  | m + 1, a, h => by rw [slN, slN, h a (by omega) (by omega), slN_congr m (a + 1) (fun k h1 h2 => h k (by omega) (by omega))]
theorem sl_congr {c c' : Int → Int} {a b : Int} (h : ∀ k, a ≤ k → k < b → c k = c' k) : sl c a b = sl c' a b := slN_congr _ _ (fun k h1 h2 => h k h1 (by omega))
theorem sl_split {c : Int → Int} {a b e : Int} (h1 : a ≤ b) (h2 : b ≤ e) : sl c a e = sl c a b ++ sl c b e := by
  obtain ⟨m, hm⟩ : ∃ m : Nat, e = b + m := ⟨(e - b).toNat, by omega⟩
  subst hm
  clear h2
  induction m with
  | zero => rw [show b + ((0 : Nat) : Int) = b by omega, sl_nil (Int.le_refl b), List.append_nil]
  | succ m ih => rw [show b + ((m + 1 : Nat) : Int) = b + m + 1 by omega, sl_s (by omega), sl_s (by omega), ih, List.append_assoc]
theorem ev_app {fa : Int → Int} {l l' s : List Int} : ev fa (l ++ l') s = ev fa l' (ev fa l s) := by unfold ev; rw [List.foldl_append]
theorem ev_1 {fa : Int → Int} {c : Int} {s : List Int} : ev fa [c] s = stp fa c s := rfl
theorem tyl_app {l l' s : List Int} : tyl (l ++ l') s = (tyl l s).bind (tyl l') := by
  unfold tyl
  rw [List.foldl_append]
  generalize List.foldl (fun o c => Option.bind o (tst c)) (some s) l = o
  cases o with
  | some t => rfl
  | none =>
    show _ = none
    induction l' with
    | nil => rfl
    | cons c l' ih => rw [List.foldl_cons]; exact ih
theorem tyl_1 {c : Int} {s : List Int} : tyl [c] s = tst c s := rfl
theorem tyl_cons {c : Int} {l s : List Int} : tyl (c :: l) s = (tst c s).bind (tyl l) := by rw [show c :: l = [c] ++ l from rfl, tyl_app, tyl_1]
/-- a value of a type -/
def vok (t v : Int) : Prop := inr v ∧ (t = 0 → 1 ≤ v) ∧ (t = 3 → v = 0 ∨ v = 1)
def sok : List Int → List Int → Prop
  | [], [] => True
  | t :: ts, v :: vs => vok t v ∧ sok ts vs
  | _, _ => False
theorem sok_len : ∀ {ts vs : List Int}, sok ts vs → ts.length = vs.length
  | [], [], _ => rfl
  | _ :: _, _ :: _, h => by rw [List.length_cons, List.length_cons, sok_len h.2]
  | [], _ :: _, h => h.elim
  | _ :: _, [], h => h.elim
/-- a law: of each line what it pays, and when -/
abbrev Lw : Type := List (List Int × List Int)
def clp (v : Int) : Int := if v < 0 then 0 else if 99 < v then 99 else v
def payM (fa : Int → Int) : Lw → Int
  | [] => 1
  | q :: r => if q.2 = [] ∨ ¬ hdv (ev fa q.2 []) = 0 then clp (hdv (ev fa q.1 [])) else payM fa r
def mkl (pc : Int → List Int × List Int) : Nat → Int → Lw
  | 0, _ => []
  | m + 1, l => pc l :: mkl pc m (l + 1)
theorem mkl_congr {pc pc' : Int → List Int × List Int} : ∀ (m : Nat) (l : Int), (∀ k, l ≤ k → k < l + m → pc k = pc' k) → mkl pc m l = mkl pc' m l
  | 0, _, _ => rfl
  | m + 1, l, h => by rw [mkl, mkl, h l (by omega) (by omega), mkl_congr m (l + 1) (fun k h1 h2 => h k (by omega) (by omega))]
/-- a line that is well made -/
def lnok (q : List Int × List Int) : Prop := (∃ t, t ≤ 2 ∧ tyl q.1 [] = some [t]) ∧ (q.2 = [] ∨ tyl q.2 [] = some [3])
def lwok (w : Lw) : Prop := ∀ q ∈ w, lnok q
theorem clp_r (v : Int) : 0 ≤ clp v ∧ clp v ≤ 99 := by unfold clp; split <;> (try split) <;> omega
theorem payM_r (fa : Int → Int) : ∀ w : Lw, 0 ≤ payM fa w ∧ payM fa w ≤ 99
  | [] => by show (0 : Int) ≤ 1 ∧ (1 : Int) ≤ 99; decide
  | q :: r => by
    rw [payM]
    split
    · exact clp_r _
    · exact payM_r fa r
/-- what the sign at place i pays -/
def pyI (ab : Int → Bool) (ow : Int → Int) (day : Int) (w : Lw) (row : Int → Int) (n i : Int) : Int := payM (fct ab ow day row n i) w
/-- what apprentice a gets by a row -/
def enI (ab : Int → Bool) (ow : Int → Int) (day : Int) (w : Lw) (row : Int → Int) (n a : Int) : Int := sI (fun i => if ab (row i) = true ∧ ow (row i) = a then pyI ab ow day w row n i else 0) n
