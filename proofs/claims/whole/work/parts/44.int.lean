/-! ===== the small machine over whole numbers, as conditions (a verified generator of conditions): i_wp says what must hold so that a run from here ends with Q ===== -/
/-- int, reference, long, text -/
abbrev iv : Type := Int ⊕ (Nat ⊕ (Int64 ⊕ Nat))
abbrev iL : Type := List (Option iv)
/-- ints of a cell by place; an int field k of the object c has the cell fv c k, place 0 -/
abbrev iF : Type := Nat → Int → Int
abbrev iG : Type := Nat → Int → Int64
abbrev iI (x : Int) : iv := .inl x
abbrev iR (a : Nat) : iv := .inr (.inl a)
abbrev iJ (x : Int64) : iv := .inr (.inr (.inl x))
abbrev iX (t : Nat) : iv := .inr (.inr (.inr t))
def fv (c k : Nat) : Nat := 200 * (k + 1) + c
def cV : iv → Value
  | .inl x => .int (Int32.ofInt x)
  | .inr (.inl a) => .ref a
  | .inr (.inr (.inl l)) => .long l
  | .inr (.inr (.inr t)) => .retAddr t
def cL (lv : iL) : x_L := lv.map (fun o => o.map cV)
def cF (f : iF) : Nat → Nat → Int32 := fun c k => match kS[c]? with
  | some (.inr _) => Int32.ofInt (f (fv c k) 0)
  | some (.inl _) => Int32.ofInt (f c (k : Int))
  | none => 0
def cG (g : iG) : Nat → Nat → Int64 := fun c k => g c (k : Int)
def cT (f : iF) (g : iG) : x_T := (kS, cF f, cG g)
abbrev inr (z : Int) : Prop := -2147483648 ≤ z ∧ z ≤ 2147483647
def InR (f : iF) : Prop := ∀ c k, inr (f c k)
def okv : iv → Prop
  | .inl x => inr x
  | .inr (.inl a) => a < 106
  | _ => True
def okS (st : List iv) : Prop := ∀ v ∈ st, okv v
def okL (lv : iL) : Prop := ∀ v, some v ∈ lv → okv v
/-- what an int is that wrapped -/
def w32 (z : Int) : Int := (z + 2147483648) % 4294967296 - 2147483648
def wv (f : iF) (c : Nat) (k v : Int) : iF := fun c' k' => if c' = c ∧ k' = k then v else f c' k'
def wg (g : iG) (c : Nat) (k : Int) (v : Int64) : iG := fun c' k' => if c' = c ∧ k' = k then v else g c' k'
def acp (f : iF) (a b : Nat) (sp dp n : Int) : iF := fun c k => if c = b ∧ dp ≤ k ∧ k < dp + n then f a (sp + (k - dp)) else f c k
def b_and (x y : Int) : Int := (Int32.ofInt x &&& Int32.ofInt y).toInt
def b_or (x y : Int) : Int := (Int32.ofInt x ||| Int32.ofInt y).toInt
def b_shl (x y : Int) : Int := (Int32.ofInt x <<< (Int32.ofInt y &&& 31)).toInt
def b_shr (x y : Int) : Int := (Int32.ofInt x >>> (Int32.ofInt y &&& 31)).toInt
def b_ushr (x y : Int) : Int := ((Int32.ofInt x).toUInt32 >>> ((Int32.ofInt y).toUInt32 &&& Int32.toUInt32 31)).toInt32.toInt
def b_i2c (x : Int) : Int := ((Int32.ofInt x).toUInt32 % 65536).toInt32.toInt
def b_i2l (x : Int) : Int64 := (Int32.ofInt x).toInt64
def b_l2i (x : Int64) : Int := x.toInt32.toInt
def b_shlL (x : Int64) (y : Int) : Int64 := x <<< ((Int32.ofInt y).toInt64 &&& 63)
def b_ushrL (x : Int64) (y : Int) : Int64 := (x.toUInt64 >>> ((Int32.ofInt y).toInt64.toUInt64 &&& Int64.toUInt64 63)).toInt64
def i_g (b : Bool) (p : Prop) : Prop := match b with
  | true => p
  | false => False
def i_sm32 (v : Int) : Bool := match v with
  | .ofNat n => Nat.ble n 2147483647
  | .negSucc n => Nat.ble n 2147483647
def i_cat : iv → Nat
  | .inr (.inr (.inl _)) => 2
  | _ => 1
def i_sm : List iv → Nat
  | [] => 0
  | v :: l => i_cat v + i_sm l
def i_okp (lv : iL) : Nat → Bool
  | 0 => true
  | i + 1 => match lv[i]? with
    | some (some (.inr (.inr (.inl _)))) => false
    | _ => true
def i_set0 (lv : iL) (i : Nat) (o : Option iv) : iL := match Nat.beq i lv.length with
  | true => lv ++ [o]
  | false => lv.set i o
/-- the same, place by place -/
def i_set : iL → Nat → Option iv → iL
  | [], 0, o => [o]
  | [], _ + 1, _ => []
  | _ :: l, 0, o => o :: l
  | a :: l, i + 1, o => a :: i_set l i o
theorem i_set_eq (o : Option iv) : ∀ (lv : iL) (i : Nat), i_set lv i o = i_set0 lv i o
  | [], 0 => rfl
  | [], _ + 1 => rfl
  | _ :: _, 0 => rfl
  | a :: l, i + 1 => by
    rw [i_set, i_set_eq o l i]
    unfold i_set0
    show _ = match Nat.beq i l.length with
      | true => a :: (l ++ [o])
      | false => a :: l.set i o
    cases Nat.beq i l.length <;> rfl
/-- a branch -/
def i_br (c : ClassFile.Cond) (x y : Int) (A B : Prop) : Prop := match c with
  | .eq => (x = y → A) ∧ (¬ x = y → B)
  | .ne => (x = y → B) ∧ (¬ x = y → A)
  | .lt => (x < y → A) ∧ (¬ x < y → B)
  | .ge => (x < y → B) ∧ (¬ x < y → A)
  | .gt => (y < x → A) ∧ (¬ y < x → B)
  | .le => (y < x → B) ∧ (¬ y < x → A)
def i_s1 (M : Nat) (XT : x_Xt) (i : Instr) (lv : iL) (st : List iv) (f : iF) (g : iG) (K : iL → List iv → iF → iG → Prop) : Prop :=
  match i with
  | .iconst v => i_g (i_sm32 v) (K lv (.inl v :: st) f g)
  | .jsr v => K lv (.inr (.inr (.inl (Int64.ofInt v))) :: st) f g
  | .ldc j => K lv (.inr (.inr (.inr j)) :: st) f g
  | .iload i => match lv[i]? with
    | some (some (.inl x)) => K lv (.inl x :: st) f g
    | _ => False
  | .lload i => match lv[i]? with
    | some (some (.inr (.inr (.inl x)))) => K lv (.inr (.inr (.inl x)) :: st) f g
    | _ => False
  | .aload i => match lv[i]? with
    | some (some (.inr (.inl x))) => K lv (.inr (.inl x) :: st) f g
    | some (some (.inr (.inr (.inr x)))) => K lv (.inr (.inr (.inr x)) :: st) f g
    | _ => False
  | .istore i => match st with
    | .inl x :: st => i_g (i_okp lv i && (Nat.ble i lv.length && Nat.blt i M)) (K (i_set lv i (some (.inl x))) st f g)
    | _ => False
  | .lstore i => match st with
    | .inr (.inr (.inl x)) :: st => i_g (i_okp lv i && (Nat.ble i lv.length && Nat.blt (i + 1) M)) (K (i_set (i_set lv i (some (.inr (.inr (.inl x))))) (i + 1) none) st f g)
    | _ => False
  | .astore i => match st with
    | .inr (.inl x) :: st => i_g (i_okp lv i && (Nat.ble i lv.length && Nat.blt i M)) (K (i_set lv i (some (.inr (.inl x)))) st f g)
    | _ => False
  | .iinc i n => match lv[i]? with
    | some (some (.inl x)) => i_g (i_okp lv i) (inr (x + n) ∧ K (lv.set i (some (.inl (x + n)))) st f g)
    | _ => False
  | .iadd => match st with
    | .inl y :: .inl x :: st => (inr (x + y) ∧ K lv (.inl (x + y) :: st) f g) ∨ K lv (.inl (w32 (x + y)) :: st) f g
    | _ => False
  | .isub => match st with
    | .inl y :: .inl x :: st => (inr (x - y) ∧ K lv (.inl (x - y) :: st) f g) ∨ K lv (.inl (w32 (x - y)) :: st) f g
    | _ => False
  | .imul => match st with
    | .inl y :: .inl x :: st => (inr (x * y) ∧ K lv (.inl (x * y) :: st) f g) ∨ K lv (.inl (w32 (x * y)) :: st) f g
    | _ => False
  | .idiv => match st with
    | .inl y :: .inl x :: st => ¬ y = 0 ∧ (inr (x.tdiv y) ∧ K lv (.inl (x.tdiv y) :: st) f g)
    | _ => False
  | .irem => match st with
    | .inl y :: .inl x :: st => ¬ y = 0 ∧ (inr (x.tmod y) ∧ K lv (.inl (x.tmod y) :: st) f g)
    | _ => False
  | .iand => match st with
    | .inl y :: .inl x :: st => K lv (.inl (b_and x y) :: st) f g
    | _ => False
  | .ior => match st with
    | .inl y :: .inl x :: st => K lv (.inl (b_or x y) :: st) f g
    | _ => False
  | .ishl => match st with
    | .inl y :: .inl x :: st => K lv (.inl (b_shl x y) :: st) f g
    | _ => False
  | .ishr => match st with
    | .inl y :: .inl x :: st => K lv (.inl (b_shr x y) :: st) f g
    | _ => False
  | .iushr => match st with
    | .inl y :: .inl x :: st => K lv (.inl (b_ushr x y) :: st) f g
    | _ => False
  | .ladd => match st with
    | .inr (.inr (.inl y)) :: .inr (.inr (.inl x)) :: st => K lv (.inr (.inr (.inl (x + y))) :: st) f g
    | _ => False
  | .lmul => match st with
    | .inr (.inr (.inl y)) :: .inr (.inr (.inl x)) :: st => K lv (.inr (.inr (.inl (x * y))) :: st) f g
    | _ => False
  | .ldiv => match st with
    | .inr (.inr (.inl y)) :: .inr (.inr (.inl x)) :: st => ¬ y = 0 ∧ K lv (.inr (.inr (.inl (x / y))) :: st) f g
    | _ => False
  | .land => match st with
    | .inr (.inr (.inl y)) :: .inr (.inr (.inl x)) :: st => K lv (.inr (.inr (.inl (x &&& y))) :: st) f g
    | _ => False
  | .lor => match st with
    | .inr (.inr (.inl y)) :: .inr (.inr (.inl x)) :: st => K lv (.inr (.inr (.inl (x ||| y))) :: st) f g
    | _ => False
  | .lshl => match st with
    | .inl y :: .inr (.inr (.inl x)) :: st => K lv (.inr (.inr (.inl (b_shlL x y))) :: st) f g
    | _ => False
  | .lushr => match st with
    | .inl y :: .inr (.inr (.inl x)) :: st => K lv (.inr (.inr (.inl (b_ushrL x y))) :: st) f g
    | _ => False
  | .lcmp => match st with
    | .inr (.inr (.inl y)) :: .inr (.inr (.inl x)) :: st => K lv (.inl (lg_cmp x y).toInt :: st) f g
    | _ => False
  | .i2l => match st with
    | .inl x :: st => K lv (.inr (.inr (.inl (b_i2l x))) :: st) f g
    | _ => False
  | .l2i => match st with
    | .inr (.inr (.inl x)) :: st => K lv (.inl (b_l2i x) :: st) f g
    | _ => False
  | .i2c => match st with
    | .inl x :: st => K lv (.inl (b_i2c x) :: st) f g
    | _ => False
  | .dup => match st with
    | .inl x :: st => K lv (.inl x :: .inl x :: st) f g
    | .inr (.inl x) :: st => K lv (.inr (.inl x) :: .inr (.inl x) :: st) f g
    | _ => False
  | .dup2 => match st with
    | .inl y :: .inr (.inl x) :: st => K lv (.inl y :: .inr (.inl x) :: .inl y :: .inr (.inl x) :: st) f g
    | _ => False
  | .arraylength => match st with
    | .inr (.inl a) :: st => match kS[a]? with
      | some (.inl (.int, n)) => i_g (Nat.ble n 2147483647) (K lv (.inl (n : Int) :: st) f g)
      | some (.inl (.long, n)) => i_g (Nat.ble n 2147483647) (K lv (.inl (n : Int) :: st) f g)
      | _ => False
    | .inr (.inr (.inr t)) :: st => match XT t with
      | some q => (q.1 ≤ 2147483647) ∧ K lv (.inl (q.1 : Int) :: st) f g
      | none => False
    | _ => False
  | .invokeinterface ci k => match st with
    | .inr (.inl a) :: st => match kS[a]? with
      | some (.inr o) => i_g (Nat.beq o.1 ci) (match o.2[k]? with
        | some none => K lv (.inl (f (fv a k) 0) :: st) f g
        | some (some (d + 1)) => K lv (.inr (.inl d) :: st) f g
        | _ => False)
      | _ => False
    | _ => False
  | .iaload => match st with
    | .inl i :: .inr (.inl a) :: st => match kS[a]? with
      | some (.inl (.int, n)) => (0 ≤ i ∧ i < (n : Int)) ∧ K lv (.inl (f a i) :: st) f g
      | _ => False
    | .inl i :: .inr (.inr (.inr t)) :: st => match XT t with
      | some q => (0 ≤ i ∧ i < (q.1 : Int)) ∧ K lv (.inl (q.2 i.toNat).toInt :: st) f g
      | none => False
    | _ => False
  | .baload => match st with
    | .inl i :: .inr (.inl a) :: st => match kS[a]? with
      | some (.inl (.boolean, n)) => (0 ≤ i ∧ i < (n : Int)) ∧ K lv (.inl (f a i) :: st) f g
      | _ => False
    | _ => False
  | .laload => match st with
    | .inl i :: .inr (.inl a) :: st => match kS[a]? with
      | some (.inl (.long, n)) => (0 ≤ i ∧ i < (n : Int)) ∧ K lv (.inr (.inr (.inl (g a i))) :: st) f g
      | _ => False
    | _ => False
  | .iastore => match st with
    | .inl x :: .inl i :: .inr (.inl a) :: st => match kS[a]? with
      | some (.inl (.int, n)) => (0 ≤ i ∧ i < (n : Int)) ∧ K lv st (wv f a i x) g
      | _ => False
    | _ => False
  | .bastore => match st with
    | .inl x :: .inl i :: .inr (.inl a) :: st => match kS[a]? with
      | some (.inl (.boolean, n)) => (0 ≤ i ∧ i < (n : Int)) ∧ ((x = 0 ∨ x = 1) ∧ K lv st (wv f a i x) g)
      | _ => False
    | _ => False
  | .lastore => match st with
    | .inr (.inr (.inl x)) :: .inl i :: .inr (.inl a) :: st => match kS[a]? with
      | some (.inl (.long, n)) => (0 ≤ i ∧ i < (n : Int)) ∧ K lv st f (wg g a i x)
      | _ => False
    | _ => False
  | .multianewarray ci k => match st with
    | .inl v :: .inr (.inl a) :: st => match kS[a]? with
      | some (.inr o) => i_g (Nat.beq o.1 ci && Nat.blt k 2000) (match o.2[x_kk k]? with
        | some none => (match Nat.blt k 1000 with
          | true => K lv st (wv f (fv a (x_kk k)) 0 v) g
          | false => (v = 0 ∨ v = 1) ∧ K lv st (wv f (fv a (x_kk k)) 0 v) g)
        | _ => False)
      | _ => False
    | _ => False
  | .invokedynamic 0 => match st with
    | .inl y :: .inl x :: st => i_g (Nat.ble (i_sm st) 8) (K lv (.inl (max x y) :: st) f g)
    | _ => False
  | .invokedynamic 1 => match st with
    | .inl y :: .inl x :: st => i_g (Nat.ble (i_sm st) 8) (K lv (.inl (min x y) :: st) f g)
    | _ => False
  | .invokedynamic 2 => match st with
    | .inl n :: .inl dp :: .inr (.inl b) :: .inl sp :: .inr (.inl a) :: st => match kS[a]?, kS[b]? with
      | some (.inl (.int, na)), some (.inl (.int, nb)) => i_g (Nat.ble (i_sm st) 8) ((0 ≤ sp ∧ 0 ≤ dp ∧ 0 ≤ n ∧ sp + n ≤ (na : Int) ∧ dp + n ≤ (nb : Int)) ∧ K lv st (acp f a b sp dp n) g)
      | _, _ => False
    | _ => False
  | _ => False
def i_ck (cuts : List (Nat × Nat)) (j : Nat) : Option Nat := match cuts with
  | [] => none
  | q :: l => match Nat.beq q.1 j with
    | true => some q.2
    | false => i_ck l j
def i_tb (x : Int) (K : Int → Prop) (d : Int) : Int → List Int → Prop
  | _, [] => K d
  | lo, t :: l => (x = lo → K t) ∧ (¬ x = lo → i_tb x K d (lo + 1) l)
def i_lk (x : Int) (K : Int → Prop) (d : Int) : List (Int × Int) → Prop
  | [] => K d
  | q :: l => (x = q.1 → K q.2) ∧ (¬ x = q.1 → i_lk x K d l)
/-- from an instruction on; cuts: places at which J takes over (with so many locals); O: calls -/
def i_wp (M : Nat) (XT : x_Xt) (cuts : List (Nat × Nat)) (O : Nat → List iv → iF → iG → (Option iv → iF → iG → Prop) → Prop) (J : Bool → Nat → iL → List iv → iF → iG → Prop) (Q : Option iv → iF → iG → Prop) (code : List Instr) : Nat → Nat → List Instr → iL → List iv → iF → iG → Prop
  | 0, _, _, _, _, _, _ => False
  | _ + 1, _, [], _, _, _, _ => False
  | k + 1, pc, i :: rest, lv, st, f, g => match i with
    | .goto j => i_g (Nat.blt pc j.toNat) (match i_ck cuts j.toNat with
      | some m => J false j.toNat (lv.take m) st f g
      | none => i_wp M XT cuts O J Q code k j.toNat (code.drop j.toNat) lv st f g)
    | .jsr_w j => match st with
      | [] => match i_ck cuts j.toNat with
        | some m => J true j.toNat (lv.take m) [] f g
        | none => False
      | _ => False
    | .ifCond c j => match st with
      | .inl x :: st => i_br c x 0 (match j with
        | .ofNat t => i_g (Nat.blt pc t) (match i_ck cuts t with
          | some m => J false t (lv.take m) st f g
          | none => i_wp M XT cuts O J Q code k t (code.drop t) lv st f g)
        | .negSucc t => (match st with
          | [] => match i_ck cuts t with
            | some m => J true t (lv.take m) [] f g
            | none => False
          | _ => False)) (match i_ck cuts (pc + 1) with
          | some m => J false (pc + 1) (lv.take m) st f g
          | none => i_wp M XT cuts O J Q code k (pc + 1) rest lv st f g)
      | _ => False
    | .if_icmp c j => match st with
      | .inl y :: .inl x :: st => i_br c x y (match j with
        | .ofNat t => i_g (Nat.blt pc t) (match i_ck cuts t with
          | some m => J false t (lv.take m) st f g
          | none => i_wp M XT cuts O J Q code k t (code.drop t) lv st f g)
        | .negSucc t => (match st with
          | [] => match i_ck cuts t with
            | some m => J true t (lv.take m) [] f g
            | none => False
          | _ => False)) (match i_ck cuts (pc + 1) with
          | some m => J false (pc + 1) (lv.take m) st f g
          | none => i_wp M XT cuts O J Q code k (pc + 1) rest lv st f g)
      | _ => False
    | .tableswitch d lo _ offs => match st with
      | .inl x :: st => i_tb x (fun t => i_g (Nat.blt pc t.toNat) (match i_ck cuts t.toNat with
          | some m => J false t.toNat (lv.take m) st f g
          | none => i_wp M XT cuts O J Q code k t.toNat (code.drop t.toNat) lv st f g)) d lo offs.toList
      | _ => False
    | .lookupswitch d ps => match st with
      | .inl x :: st => i_lk x (fun t => i_g (Nat.blt pc t.toNat) (match i_ck cuts t.toNat with
          | some m => J false t.toNat (lv.take m) st f g
          | none => i_wp M XT cuts O J Q code k t.toNat (code.drop t.toNat) lv st f g)) d ps.toList
      | _ => False
    | .return_ => match st with
      | [] => Q none f g
      | _ => False
    | .ireturn => match st with
      | [.inl v] => Q (some (.inl v)) f g
      | _ => False
    | .areturn => match st with
      | [.inl v] => (v = 0 ∨ v = 1) ∧ Q (some (.inl v)) f g
      | _ => False
    | .lreturn => match st with
      | [.inr (.inr (.inl v))] => Q (some (.inr (.inr (.inl v)))) f g
      | _ => False
    | .invokevirtual μ => match st.drop (kE.2.1 μ).1 with
      | .inr (.inl b) :: r => match kS[b]? with
        | some (.inr o) => i_g (Nat.beq o.1 (kE.2.1 μ).2 && Nat.ble (i_sm r) 8) (O μ (.inr (.inl b) :: (st.take (kE.2.1 μ).1).reverse) f g (fun v f g => match i_ck cuts (pc + 1) with
          | some m => J false (pc + 1) (lv.take m) (v.toList ++ r) f g
          | none => i_wp M XT cuts O J Q code k (pc + 1) rest lv (v.toList ++ r) f g))
        | _ => False
      | _ => False
    | .checkcast μ => match st.drop (kE.2.1 μ).1 with
      | .inr (.inr (.inr b)) :: r => i_g (Nat.blt b 2 && Nat.ble (i_sm r) 8) (O μ (.inr (.inr (.inr b)) :: (st.take (kE.2.1 μ).1).reverse) f g (fun v f g => match i_ck cuts (pc + 1) with
          | some m => J false (pc + 1) (lv.take m) (v.toList ++ r) f g
          | none => i_wp M XT cuts O J Q code k (pc + 1) rest lv (v.toList ++ r) f g))
      | _ => False
    | .invokestatic μ => i_g (Nat.ble (i_sm (st.drop (kE.2.1 μ).1)) 8 && Nat.ble (kE.2.1 μ).1 st.length) (O μ (st.take (kE.2.1 μ).1).reverse f g (fun v f g => match i_ck cuts (pc + 1) with
          | some m => J false (pc + 1) (lv.take m) (v.toList ++ st.drop (kE.2.1 μ).1) f g
          | none => i_wp M XT cuts O J Q code k (pc + 1) rest lv (v.toList ++ st.drop (kE.2.1 μ).1) f g))
    | i => i_s1 M XT i lv st f g (fun lv st f g => match i_ck cuts (pc + 1) with
          | some m => J false (pc + 1) (lv.take m) st f g
          | none => i_wp M XT cuts O J Q code k (pc + 1) rest lv st f g)
/-- a run ends well -/
def zOK (Q : Option iv → iF → iG → Prop) (z : x_Z) : Prop := ∃ v f g, z = some (v.map cV, cT f g) ∧ InR f ∧ (∀ w, v = some w → okv w) ∧ Q v f g
/-- a method's contract, d calls deep -/
def wq (d μ : Nat) (vs : List iv) (f : iF) (g : iG) (Q : Option iv → iF → iG → Prop) : Prop := okS vs → InR f → zOK Q (pe d μ (vs.map cV) (cT f g))
