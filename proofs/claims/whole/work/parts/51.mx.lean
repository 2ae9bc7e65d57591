/-! ===== states that differ in some cells alone ===== -/
def mem (S : List Nat) (c : Nat) : Bool := match S with
  | [] => false
  | a :: l => match Nat.beq a c with
    | true => true
    | false => mem l c
/-- f but for the cells S, which are f1's -/
def mx (S : List Nat) (f f1 : iF) : iF := fun c => match mem S c with
  | true => f1 c
  | false => f c
theorem mx_rf {S : List Nat} {f : iF} : f = mx S f f := by
  funext c
  unfold mx
  cases mem S c <;> rfl
theorem mx_t {S : List Nat} {f f1 : iF} {c : Nat} (h : mem S c = true) : mx S f f1 c = f1 c := by unfold mx; rw [h]
theorem mx_f {S : List Nat} {f f1 : iF} {c : Nat} (h : mem S c = false) : mx S f f1 c = f c := by unfold mx; rw [h]
theorem mx_wv {S : List Nat} {f F f2 : iF} {c : Nat} {k v : Int} (hm : mem S c = true) (h : F = mx S f f2) : wv F c k v = mx S f (wv f2 c k v) := by
  subst h
  funext c'
  by_cases e : c' = c
  · subst e
    rw [mx_t hm]
    funext k'
    rw [wv_i, wv_i, mx_t hm]
  · rw [wv_o e]
    cases h : mem S c' with
    | true => rw [mx_t h, mx_t h, wv_o e]
    | false => rw [mx_f h, mx_f h]
theorem mem_all {S : List Nat} : ∀ {T : List Nat}, T.all (mem S) = true → ∀ c, mem T c = true → mem S c = true
  | [], _, c, h => by cases h
  | a :: l, hT, c, h => by
    rw [List.all_cons, Bool.and_eq_true] at hT
    unfold mem at h
    cases e : Nat.beq a c with
    | true => rw [← Nat.eq_of_beq_eq_true e]; exact hT.1
    | false => rw [e] at h; exact mem_all hT.2 c h
theorem mx_mx {S T : List Nat} {f F f2 f3 : iF} (hm : T.all (mem S) = true) (h : F = mx S f f2) : mx T F f3 = mx S f (mx T f2 f3) := by
  subst h
  funext c
  unfold mx
  cases e : mem T c with
  | true => rw [mem_all hm c e]
  | false => cases mem S c <;> rfl
/-- copied out of a row -/
def acpS (f : iF) (src : Int → Int) (b : Nat) (sp dp n : Int) : iF := fun c k => if c = b ∧ dp ≤ k ∧ k < dp + n then src (sp + (k - dp)) else f c k
theorem acpS_i {f : iF} {src : Int → Int} {b : Nat} {sp dp n k : Int} : acpS f src b sp dp n b k = if dp ≤ k ∧ k < dp + n then src (sp + (k - dp)) else f b k := by
  unfold acpS
  by_cases h : dp ≤ k ∧ k < dp + n
  · rw [if_pos ⟨rfl, h⟩, if_pos h]
  · rw [if_neg (fun e => h e.2), if_neg h]
theorem acpS_o {f : iF} {src : Int → Int} {b c' : Nat} {sp dp n : Int} (h : c' ≠ b) : acpS f src b sp dp n c' = f c' := by
  funext k'
  unfold acpS
  rw [if_neg (fun e => h e.1)]
theorem mx_acp {S : List Nat} {f F f2 : iF} {a b : Nat} {sp dp n : Int} (hm : mem S b = true) (h : F = mx S f f2) : acp F a b sp dp n = mx S f (acpS f2 (F a) b sp dp n) := by
  subst h
  funext c
  by_cases e : c = b
  · subst e
    rw [mx_t hm]
    funext k
    rw [acp_i, acpS_i, mx_t (c := c) hm]
  · rw [acp_o e]
    cases h : mem S c with
    | true => rw [mx_t h, mx_t h, acpS_o e]
    | false => rw [mx_f h, mx_f h]
