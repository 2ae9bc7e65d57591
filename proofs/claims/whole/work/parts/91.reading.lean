/-! ===== the text: a small machine that reads it (mode, what waits, place, code, lines' ends) ===== -/
abbrev PM : Type := Nat × List Int × Int × List Int × List Int
/-- how many ( and not are open -/
def opn : List Int → Int
  | [] => 0
  | x :: K => (if x = 9 ∨ x = 12 then 1 else 0) + opn K
theorem opn_r : ∀ K : List Int, 0 ≤ opn K
  | [] => Int.le_refl 0
  | x :: K => by have := opn_r K; rw [opn]; split <;> omega
def ps1 (k b : Int) (m : Nat) (K : List Int) (a : Int) (C W : List Int) : PM :=
  match m with
  | 0 => if k = 0 then (99, K, a, C, W) else if k = 3 then (if 32 ≤ W.length then (100, [3], a, C, W) else (1, [20], b, C, W)) else (100, [1], a, C, W)
  | 1 => if 1000 ≤ k then (2, K, b, C ++ [k - 1000], W) else if 8 ≤ k ∧ k ≤ 16 then (2, K, b, C ++ [7 - k], W) else (100, [1], a, C, W)
  | 2 => if hdv K = 4 then (2, K.tail, a, C ++ [-12], W) else if hdv K = 5 then (2, K.tail, a, C ++ [-13], W) else if k = 42 then (1, 4 :: K, b, C, W) else if k = 47 then (3, 5 :: K, b, C, W) else (4, K, a, C, W)
  | 3 => if k < 1000 then (100, [1], a, C, W) else if k = 1000 then (100, [2], a, C, W) else (2, K, b, C ++ [k - 1000], W)
  | 4 => if hdv K = 2 then (5, K.tail, a, C ++ [-10], W) else if hdv K = 3 then (5, K.tail, a, C ++ [-11], W) else (5, K, a, C, W)
  | 5 => if k = 43 then (1, 2 :: K, b, C, W) else if k = 45 then (1, 3 :: K, b, C, W) else (6, K, a, C, W)
  | 6 => if hdv K = 20 then (7, K.tail, a, C, W ++ [(C.length : Int)]) else if hdv K = 21 then (if k = 60 then (1, 6 :: K.tail, b, C, W) else if k = 61 then (1, 7 :: K.tail, b, C, W) else if k = 62 then (1, 8 :: K.tail, b, C, W) else (100, [1], a, C, W)) else (9, K.tail, a, C ++ [-8 - hdv K], W)
  | 7 => if k = 4 then (8, [22], b, C, W) else (16, [], a, C, W)
  | 8 => if k = 7 ∨ k = 40 then (if 8 ≤ opn K then (100, [3], a, C, W) else (8, (if k = 7 then 9 else 12) :: K, b, C, W)) else (1, 21 :: K, a, C, W)
  | 9 => if hdv K = 9 then (9, K.tail, a, C ++ [-19], W) else (10, K, a, C, W)
  | 10 => if hdv K = 10 then (10, K.tail, a, C ++ [-17], W) else (11, K, a, C, W)
  | 11 => if k = 6 then (8, 10 :: K, b, C, W) else (12, K, a, C, W)
  | 12 => if hdv K = 11 then (12, K.tail, a, C ++ [-18], W) else (13, K, a, C, W)
  | 13 => if k = 5 then (8, 11 :: K, b, C, W) else (14, K, a, C, W)
  | 14 => if hdv K = 22 then (16, K.tail, a, C, W) else if k = 41 then (9, K.tail, b, C, W) else (100, [1], a, C, W)
  | 16 => if k = 59 then (0, [], b, C, W ++ [(C.length : Int)]) else (100, [1], a, C, W)
  | m => (m, K, a, C, W)
def pst (kd nx : Int → Int) (s : PM) : PM := ps1 (kd s.2.2.1) (nx s.2.2.1) s.1 s.2.1 s.2.2.1 s.2.2.2.1 s.2.2.2.2
def itr (kd nx : Int → Int) : Nat → PM → PM
  | 0, s => s
  | k + 1, s => itr kd nx k (pst kd nx s)
def Rch (kd nx : Int → Int) (s t : PM) : Prop := ∃ k : Nat, itr kd nx k s = t
section PRS
variable {kd nx : Int → Int} {s t u : PM} {K : List Int} {a x : Int} {C W : List Int}
theorem itr_add : ∀ (j k : Nat) (s : PM), itr kd nx (j + k) s = itr kd nx k (itr kd nx j s)
  | 0, k, s => by rw [Nat.zero_add]; rfl
  | j + 1, k, s => by rw [show j + 1 + k = (j + k) + 1 by omega, itr, itr_add j k, itr]
theorem r_0 : Rch kd nx s s := ⟨0, rfl⟩
theorem r_t (h1 : Rch kd nx s t) (h2 : Rch kd nx t u) : Rch kd nx s u := by
  obtain ⟨j, e1⟩ := h1
  obtain ⟨k, e2⟩ := h2
  exact ⟨j + k, by rw [itr_add, e1, e2]⟩
theorem r_1 (h : pst kd nx s = t) : Rch kd nx s t := ⟨1, h⟩
theorem itr_fix (h : pst kd nx s = s) : ∀ k : Nat, itr kd nx k s = s
  | 0 => rfl
  | k + 1 => by rw [itr, h, itr_fix h k]
/-- only one end -/
theorem r_u (h1 : Rch kd nx s t) (h2 : Rch kd nx s u) (ht : pst kd nx t = t) (hu : pst kd nx u = u) : t = u := by
  obtain ⟨j, e1⟩ := h1
  obtain ⟨k, e2⟩ := h2
  rcases Nat.le_total j k with h | h
  · rw [show k = j + (k - j) by omega, itr_add, e1, itr_fix ht] at e2; exact e2
  · rw [show j = k + (j - k) by omega, itr_add, e2, itr_fix hu] at e1; exact e1.symm
theorem fix99 : pst kd nx (99, K, a, C, W) = (99, K, a, C, W) := rfl
theorem fix100 : pst kd nx (100, K, a, C, W) = (100, K, a, C, W) := rfl
theorem q_0e (h : kd a = 0) : Rch kd nx (0, K, a, C, W) (99, K, a, C, W) := r_1 (by simp [pst, ps1, hdv, List.tail, opn, h])
theorem q_0m (h : kd a = 3) (h2 : 32 ≤ W.length) : Rch kd nx (0, K, a, C, W) (100, [3], a, C, W) := r_1 (by simp [pst, ps1, hdv, List.tail, opn, h, h2])
theorem q_0p (h : kd a = 3) (h2 : ¬ 32 ≤ W.length) : Rch kd nx (0, K, a, C, W) (1, [20], nx a, C, W) := r_1 (by simp [pst, ps1, hdv, List.tail, opn, h, h2])
theorem q_0f (h : ¬ kd a = 0) (h2 : ¬ kd a = 3) : Rch kd nx (0, K, a, C, W) (100, [1], a, C, W) := r_1 (by simp [pst, ps1, hdv, List.tail, opn, h, h2])
theorem q_1n (h : 1000 ≤ kd a) : Rch kd nx (1, K, a, C, W) (2, K, nx a, C ++ [kd a - 1000], W) := r_1 (by simp [pst, ps1, hdv, List.tail, opn, h])
theorem q_1a (h : 8 ≤ kd a ∧ kd a ≤ 16) : Rch kd nx (1, K, a, C, W) (2, K, nx a, C ++ [7 - kd a], W) := r_1 (by show (if 1000 ≤ kd a then _ else if 8 ≤ kd a ∧ kd a ≤ 16 then _ else _) = _; rw [if_neg (by omega), if_pos h])
theorem q_1f (h : ¬ 1000 ≤ kd a) (h2 : ¬ (8 ≤ kd a ∧ kd a ≤ 16)) : Rch kd nx (1, K, a, C, W) (100, [1], a, C, W) := r_1 (by show (if 1000 ≤ kd a then _ else if 8 ≤ kd a ∧ kd a ≤ 16 then _ else _) = _; rw [if_neg h, if_neg h2])
theorem q_2x  : Rch kd nx (2, 4 :: K, a, C, W) (2, K, a, C ++ [-12], W) := r_1 (by simp [pst, ps1, hdv, List.tail, opn])
theorem q_2d  : Rch kd nx (2, 5 :: K, a, C, W) (2, K, a, C ++ [-13], W) := r_1 (by simp [pst, ps1, hdv, List.tail, opn])
theorem q_2m (h : ¬ x = 4) (h2 : ¬ x = 5) (h3 : kd a = 42) : Rch kd nx (2, x :: K, a, C, W) (1, 4 :: x :: K, nx a, C, W) := r_1 (by simp [pst, ps1, hdv, List.tail, opn, h, h2, h3])
theorem q_2p (h : ¬ x = 4) (h2 : ¬ x = 5) (h3 : kd a = 47) : Rch kd nx (2, x :: K, a, C, W) (3, 5 :: x :: K, nx a, C, W) := r_1 (by simp [pst, ps1, hdv, List.tail, opn, h, h2, h3])
theorem q_2e (h : ¬ x = 4) (h2 : ¬ x = 5) (h3 : ¬ kd a = 42) (h4 : ¬ kd a = 47) : Rch kd nx (2, x :: K, a, C, W) (4, x :: K, a, C, W) := r_1 (by simp [pst, ps1, hdv, List.tail, opn, h, h2, h3, h4])
theorem q_3f (h : kd a < 1000) : Rch kd nx (3, K, a, C, W) (100, [1], a, C, W) := r_1 (by simp [pst, ps1, hdv, List.tail, opn, h])
theorem q_3z (h : kd a = 1000) : Rch kd nx (3, K, a, C, W) (100, [2], a, C, W) := r_1 (by simp [pst, ps1, hdv, List.tail, opn, h])
theorem q_3n (h : 1000 < kd a) : Rch kd nx (3, K, a, C, W) (2, K, nx a, C ++ [kd a - 1000], W) := r_1 (by show (if kd a < 1000 then _ else if kd a = 1000 then _ else _) = _; rw [if_neg (by omega), if_neg (by omega)])
theorem q_4p  : Rch kd nx (4, 2 :: K, a, C, W) (5, K, a, C ++ [-10], W) := r_1 (by simp [pst, ps1, hdv, List.tail, opn])
theorem q_4m  : Rch kd nx (4, 3 :: K, a, C, W) (5, K, a, C ++ [-11], W) := r_1 (by simp [pst, ps1, hdv, List.tail, opn])
theorem q_4e (h : ¬ x = 2) (h2 : ¬ x = 3) : Rch kd nx (4, x :: K, a, C, W) (5, x :: K, a, C, W) := r_1 (by simp [pst, ps1, hdv, List.tail, opn, h, h2])
theorem q_5p (h : kd a = 43) : Rch kd nx (5, K, a, C, W) (1, 2 :: K, nx a, C, W) := r_1 (by simp [pst, ps1, hdv, List.tail, opn, h])
theorem q_5m (h : kd a = 45) : Rch kd nx (5, K, a, C, W) (1, 3 :: K, nx a, C, W) := r_1 (by simp [pst, ps1, hdv, List.tail, opn, h])
theorem q_5e (h : ¬ kd a = 43) (h2 : ¬ kd a = 45) : Rch kd nx (5, K, a, C, W) (6, K, a, C, W) := r_1 (by simp [pst, ps1, hdv, List.tail, opn, h, h2])
theorem q_6p  : Rch kd nx (6, 20 :: K, a, C, W) (7, K, a, C, W ++ [(C.length : Int)]) := r_1 (by simp [pst, ps1, hdv, List.tail, opn])
theorem q_6_60 (h : kd a = 60) : Rch kd nx (6, 21 :: K, a, C, W) (1, 6 :: K, nx a, C, W) := r_1 (by simp [pst, ps1, hdv, List.tail, opn, h])
theorem q_6_61 (h : kd a = 61) : Rch kd nx (6, 21 :: K, a, C, W) (1, 7 :: K, nx a, C, W) := r_1 (by simp [pst, ps1, hdv, List.tail, opn, h])
theorem q_6_62 (h : kd a = 62) : Rch kd nx (6, 21 :: K, a, C, W) (1, 8 :: K, nx a, C, W) := r_1 (by simp [pst, ps1, hdv, List.tail, opn, h])
theorem q_6f (h : ¬ kd a = 60) (h2 : ¬ kd a = 61) (h3 : ¬ kd a = 62) : Rch kd nx (6, 21 :: K, a, C, W) (100, [1], a, C, W) := r_1 (by simp [pst, ps1, hdv, List.tail, opn, h, h2, h3])
theorem q_6c (h : ¬ x = 20) (h2 : ¬ x = 21) : Rch kd nx (6, x :: K, a, C, W) (9, K, a, C ++ [-8 - x], W) := r_1 (by simp [pst, ps1, hdv, List.tail, opn, h, h2])
theorem q_7w (h : kd a = 4) : Rch kd nx (7, K, a, C, W) (8, [22], nx a, C, W) := r_1 (by simp [pst, ps1, hdv, List.tail, opn, h])
theorem q_7e (h : ¬ kd a = 4) : Rch kd nx (7, K, a, C, W) (16, [], a, C, W) := r_1 (by simp [pst, ps1, hdv, List.tail, opn, h])
theorem q_8n (h : kd a = 7) (h2 : ¬ 8 ≤ opn K) : Rch kd nx (8, K, a, C, W) (8, 9 :: K, nx a, C, W) := r_1 (by simp [pst, ps1, hdv, List.tail, opn, h, h2])
theorem q_8b (h : kd a = 40) (h2 : ¬ 8 ≤ opn K) : Rch kd nx (8, K, a, C, W) (8, 12 :: K, nx a, C, W) := r_1 (by simp [pst, ps1, hdv, List.tail, opn, h, h2])
theorem q_8m (h : kd a = 7 ∨ kd a = 40) (h2 : 8 ≤ opn K) : Rch kd nx (8, K, a, C, W) (100, [3], a, C, W) := r_1 (by simp [pst, ps1, hdv, List.tail, opn, h, h2])
theorem q_8c (h : ¬ kd a = 7) (h2 : ¬ kd a = 40) : Rch kd nx (8, K, a, C, W) (1, 21 :: K, a, C, W) := r_1 (by simp [pst, ps1, hdv, List.tail, opn, h, h2])
theorem q_9n  : Rch kd nx (9, 9 :: K, a, C, W) (9, K, a, C ++ [-19], W) := r_1 (by simp [pst, ps1, hdv, List.tail, opn])
theorem q_9e (h : ¬ hdv K = 9) : Rch kd nx (9, K, a, C, W) (10, K, a, C, W) := r_1 (by show (if hdv K = 9 then _ else _) = _; rw [if_neg h])
theorem q_10a  : Rch kd nx (10, 10 :: K, a, C, W) (10, K, a, C ++ [-17], W) := r_1 (by simp [pst, ps1, hdv, List.tail, opn])
theorem q_10e (h : ¬ hdv K = 10) : Rch kd nx (10, K, a, C, W) (11, K, a, C, W) := r_1 (by show (if hdv K = 10 then _ else _) = _; rw [if_neg h])
theorem q_11a (h : kd a = 6) : Rch kd nx (11, K, a, C, W) (8, 10 :: K, nx a, C, W) := r_1 (by simp [pst, ps1, hdv, List.tail, opn, h])
theorem q_11e (h : ¬ kd a = 6) : Rch kd nx (11, K, a, C, W) (12, K, a, C, W) := r_1 (by simp [pst, ps1, hdv, List.tail, opn, h])
theorem q_12o  : Rch kd nx (12, 11 :: K, a, C, W) (12, K, a, C ++ [-18], W) := r_1 (by simp [pst, ps1, hdv, List.tail, opn])
theorem q_12e (h : ¬ hdv K = 11) : Rch kd nx (12, K, a, C, W) (13, K, a, C, W) := r_1 (by show (if hdv K = 11 then _ else _) = _; rw [if_neg h])
theorem q_13o (h : kd a = 5) : Rch kd nx (13, K, a, C, W) (8, 11 :: K, nx a, C, W) := r_1 (by simp [pst, ps1, hdv, List.tail, opn, h])
theorem q_13e (h : ¬ kd a = 5) : Rch kd nx (13, K, a, C, W) (14, K, a, C, W) := r_1 (by simp [pst, ps1, hdv, List.tail, opn, h])
theorem q_14b  : Rch kd nx (14, 22 :: K, a, C, W) (16, K, a, C, W) := r_1 (by simp [pst, ps1, hdv, List.tail, opn])
theorem q_14c (h : ¬ x = 22) (h2 : kd a = 41) : Rch kd nx (14, x :: K, a, C, W) (9, K, nx a, C, W) := r_1 (by simp [pst, ps1, hdv, List.tail, opn, h, h2])
theorem q_14f (h : ¬ x = 22) (h2 : ¬ kd a = 41) : Rch kd nx (14, x :: K, a, C, W) (100, [1], a, C, W) := r_1 (by simp [pst, ps1, hdv, List.tail, opn, h, h2])
theorem q_16e (h : kd a = 59) : Rch kd nx (16, K, a, C, W) (0, [], nx a, C, W ++ [(C.length : Int)]) := r_1 (by simp [pst, ps1, hdv, List.tail, opn, h])
theorem q_16f (h : ¬ kd a = 59) : Rch kd nx (16, K, a, C, W) (100, [1], a, C, W) := r_1 (by simp [pst, ps1, hdv, List.tail, opn, h])
/-- a fault comes of this state -/
def flt (kd nx : Int → Int) (s : PM) (k p : Int) : Prop := ∃ C W, Rch kd nx s (100, [k], p, C, W)
theorem flt_r {k p : Int} (h : Rch kd nx s t) (hf : flt kd nx t k p) : flt kd nx s k p := by
  obtain ⟨C, W, q⟩ := hf
  exact ⟨C, W, r_t h q⟩
theorem flt_0 {k : Int} (h : Rch kd nx s (100, [k], a, C, W)) : flt kd nx s k a := ⟨C, W, h⟩
/-- the place stays or goes on -/
theorem ps1_p (k b : Int) (m : Nat) (K : List Int) (a : Int) (C W : List Int) : (ps1 k b m K a C W).2.2.1 = a ∨ (ps1 k b m K a C W).2.2.1 = b := by
  unfold ps1
  split <;> (try split) <;> (try split) <;> (try split) <;> (try split) <;> (try split) <;> first | exact Or.inl rfl | exact Or.inr rfl
/-- the same by kinds that are alike -/
theorem itr_cg {kd' nx' : Int → Int} {len : Int} (hk : ∀ a, 0 ≤ a → a ≤ len → kd a = kd' a ∧ nx a = nx' a ∧ 0 ≤ nx a ∧ nx a ≤ len) : ∀ (j : Nat) (s : PM), 0 ≤ s.2.2.1 → s.2.2.1 ≤ len → itr kd nx j s = itr kd' nx' j s
  | 0, _, _, _ => rfl
  | j + 1, s, h0, h1 => by
    obtain ⟨e1, e2, e3, e4⟩ := hk _ h0 h1
    have e : pst kd nx s = pst kd' nx' s := by unfold pst; rw [e1, e2]
    have hp : (pst kd nx s).2.2.1 = s.2.2.1 ∨ (pst kd nx s).2.2.1 = nx s.2.2.1 := ps1_p _ _ _ _ _ _ _
    rw [itr, itr, ← e]
    exact itr_cg hk j _ (by rcases hp with q | q <;> rw [q] <;> omega) (by rcases hp with q | q <;> rw [q] <;> omega)
theorem Rch_cg {kd' nx' : Int → Int} {len : Int} (hk : ∀ a, 0 ≤ a → a ≤ len → kd a = kd' a ∧ nx a = nx' a ∧ 0 ≤ nx a ∧ nx a ≤ len) (h0 : 0 ≤ s.2.2.1) (h1 : s.2.2.1 ≤ len) (H : Rch kd nx s t) : Rch kd' nx' s t := by
  obtain ⟨j, e⟩ := H
  exact ⟨j, by rw [← itr_cg hk j s h0 h1]; exact e⟩
end PRS
