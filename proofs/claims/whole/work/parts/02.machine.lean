/-! ===== A small machine over cells with numbers: what a method does, as a function. Cells: an array (type, length), or an object (number of its class, its fields: none: an int; some 0: null; some (d + 1): cell d). A reference on its stack is the number of a cell. ===== -/
abbrev x_S : Type := (FieldType × Nat) ⊕ (Nat × List (Option Nat))
abbrev x_T : Type := List x_S × (Nat → Nat → Int32) × (Nat → Nat → Int64)
abbrev x_L : Type := List (Option Value)
abbrev x_Z : Type := Option (Option Value × x_T)
/-- an int of a cell is written -/
def x_si (T : x_T) (c k : Nat) (v : Int32) : x_T := (T.1, va_up T.2.1 c (upd (T.2.1 c) k v), T.2.2)
/-- all ints of a cell -/
def x_sf (T : x_T) (c : Nat) (f : Nat → Int32) : x_T := (T.1, va_up T.2.1 c f, T.2.2)
def x_sl (T : x_T) (c k : Nat) (v : Int64) : x_T := (T.1, T.2.1, va_up T.2.2 c (vp_updL (T.2.2 c) k v))
/-- a new cell, all 0 -/
def x_new (T : x_T) (sh : x_S) : x_T := (T.1 ++ [sh], va_up T.2.1 T.1.length (fun _ => 0), va_up T.2.2 T.1.length (fun _ => 0))
/-- a reference in a field of an object -/
def x_sr (T : x_T) (c ci k : Nat) (fs : List (Option Nat)) (d : Nat) : x_T := (T.1.set c (.inr (ci, fs.set k (some (d + 1)))), T.2.1, T.2.2)
/-- how many slots the cells have -/
def x_z1 : x_S → Nat
  | .inl q => q.2
  | .inr q => q.2.length
def x_z : List x_S → Nat
  | [] => 0
  | a :: l => x_z1 a + x_z l
/-- all references of a list of values lie below n -/
def x_okv (n : Nat) : Value → Bool
  | .ref i => Nat.blt i n
  | _ => true
def x_okl (n : Nat) (lv : x_L) : Bool := lv.all (fun o => match o with | some v => x_okv n v | none => true)
def x_oks (n : Nat) (st : List Value) : Bool := st.all (x_okv n)
def x_okT (n : Nat) (sh : List x_S) : Bool := sh.all (fun q => match q with | .inr o => o.2.all (fun r => match r with | some (d + 1) => Nat.blt d n | _ => true) | _ => true)
/-- no long lies just ahead of place i -/
def x_okp (lv : x_L) : Nat → Bool
  | 0 => true
  | i + 1 => match lv[i]? with
    | some (some (.long _)) => false
    | some (some (.double _)) => false
    | _ => true
/-- i is a place of a row of n -/
def x_in (i : Int32) (n : Nat) : Bool := decide (0 ≤ i.toInt) && decide (i.toInt < n)
def x_cmp (c : ClassFile.Cond) (x y : Int32) : Bool := match c with
  | .eq => decide (x = y)
  | .ne => !decide (x = y)
  | .lt => decide (x < y)
  | .ge => decide (y ≤ x)
  | .gt => decide (y < x)
  | .le => decide (x ≤ y)
/-- how many words a stack has -/
def x_sm (st : List Value) : Nat := (st.map fun v => v.category).sum
def x_pick (lo : Int) (offs : List Int) (d : Int) (x : Int32) : Int := if x.toInt < lo then d else (offs[(x.toInt - lo).toNat]?).getD d
/-- the number of a field that is written: an int's as it is, a boolean's 1000 more, a reference's 2000 more -/
def x_kk (k : Nat) : Nat := if k < 1000 then k else if k < 2000 then k - 1000 else k - 2000
/-- a check that a run passes, else it has no answer -/
def x_g (b : Bool) (k : x_Z) : x_Z := match b with
  | true => k
  | false => none
theorem x_g_some {b : Bool} {k : x_Z} {q : Option Value × x_T} (h : x_g b k = some q) : b = true ∧ k = some q := by
  cases b
  · cases h
  · exact ⟨rfl, h⟩
/-- rows that are only read: their lengths and numbers -/
abbrev x_Xt : Type := Nat → Option (Nat × (Nat → Int32))
def x_nx : x_Xt := fun _ => none
/-- a plain instruction (resolved: .iconst any int, .jsr a long, .invokeinterface ci k a field read, .multianewarray ci k a field written, .pop Object's constructor, .invokedynamic 0 1 2 max min arraycopy); K: what follows -/
def x_s1 (XT : x_Xt) (i : Instr) (lv : x_L) (st : List Value) (T : x_T) (K : x_L → List Value → x_T → x_Z) : x_Z :=
  match i with
  | .iconst v => K lv (.int (Int32.ofInt v) :: st) T
  | .jsr v => K lv (.long (Int64.ofInt v) :: st) T
  | .ldc j => K lv (.retAddr j :: st) T
  | .iload i => match lv[i]? with
    | some (some (.int x)) => K lv (.int x :: st) T
    | _ => none
  | .lload i => match lv[i]? with
    | some (some (.long x)) => K lv (.long x :: st) T
    | _ => none
  | .aload i => match lv[i]? with
    | some (some (.ref x)) => K lv (.ref x :: st) T
    | some (some (.retAddr x)) => K lv (.retAddr x :: st) T
    | _ => none
  | .istore i => match st with
    | .int x :: st => x_g (x_okp lv i && Nat.blt i lv.length) (K (lv.set i (some (.int x))) st T)
    | _ => none
  | .lstore i => match st with
    | .long x :: st => x_g (x_okp lv i && Nat.blt (i + 1) lv.length) (K ((lv.set i (some (.long x))).set (i + 1) none) st T)
    | _ => none
  | .astore i => match st with
    | .ref x :: st => x_g (x_okp lv i && Nat.blt i lv.length) (K (lv.set i (some (.ref x))) st T)
    | _ => none
  | .iinc i n => match lv[i]? with
    | some (some (.int x)) => x_g (x_okp lv i) (K (lv.set i (some (.int (x + Int32.ofInt n)))) st T)
    | _ => none
  | .iadd => match st with
    | .int y :: .int x :: st => K lv (.int (x + y) :: st) T
    | _ => none
  | .isub => match st with
    | .int y :: .int x :: st => K lv (.int (x - y) :: st) T
    | _ => none
  | .imul => match st with
    | .int y :: .int x :: st => K lv (.int (x * y) :: st) T
    | _ => none
  | .idiv => match st with
    | .int y :: .int x :: st => if y = 0 then none else K lv (.int (x / y) :: st) T
    | _ => none
  | .irem => match st with
    | .int y :: .int x :: st => if y = 0 then none else K lv (.int (x - x / y * y) :: st) T
    | _ => none
  | .iand => match st with
    | .int y :: .int x :: st => K lv (.int (x &&& y) :: st) T
    | _ => none
  | .ior => match st with
    | .int y :: .int x :: st => K lv (.int (x ||| y) :: st) T
    | _ => none
  | .ishl => match st with
    | .int y :: .int x :: st => K lv (.int (x <<< (y &&& 31)) :: st) T
    | _ => none
  | .ishr => match st with
    | .int y :: .int x :: st => K lv (.int (x >>> (y &&& 31)) :: st) T
    | _ => none
  | .iushr => match st with
    | .int y :: .int x :: st => K lv (.int (x.toUInt32 >>> (y.toUInt32 &&& Int32.toUInt32 31)).toInt32 :: st) T
    | _ => none
  | .ladd => match st with
    | .long y :: .long x :: st => K lv (.long (x + y) :: st) T
    | _ => none
  | .lmul => match st with
    | .long y :: .long x :: st => K lv (.long (x * y) :: st) T
    | _ => none
  | .ldiv => match st with
    | .long y :: .long x :: st => if y = 0 then none else K lv (.long (x / y) :: st) T
    | _ => none
  | .land => match st with
    | .long y :: .long x :: st => K lv (.long (x &&& y) :: st) T
    | _ => none
  | .lor => match st with
    | .long y :: .long x :: st => K lv (.long (x ||| y) :: st) T
    | _ => none
  | .lshl => match st with
    | .int y :: .long x :: st => K lv (.long (x <<< (y.toInt64 &&& 63)) :: st) T
    | _ => none
  | .lushr => match st with
    | .int y :: .long x :: st => K lv (.long (x.toUInt64 >>> (y.toInt64.toUInt64 &&& Int64.toUInt64 63)).toInt64 :: st) T
    | _ => none
  | .lcmp => match st with
    | .long y :: .long x :: st => K lv (.int (lg_cmp x y) :: st) T
    | _ => none
  | .i2l => match st with
    | .int x :: st => K lv (.long x.toInt64 :: st) T
    | _ => none
  | .l2i => match st with
    | .long x :: st => K lv (.int x.toInt32 :: st) T
    | _ => none
  | .i2c => match st with
    | .int x :: st => K lv (.int (x.toUInt32 % 65536).toInt32 :: st) T
    | _ => none
  | .dup => match st with
    | .int x :: st => K lv (.int x :: .int x :: st) T
    | .ref x :: st => K lv (.ref x :: .ref x :: st) T
    | _ => none
  | .dup2 => match st with
    | .int y :: .ref x :: st => K lv (.int y :: .ref x :: .int y :: .ref x :: st) T
    | _ => none
  | .pop => match st with
    | .ref _ :: st => x_g (Nat.ble (x_sm st) 8) (K lv st T)
    | _ => none
  | .arraylength => match st with
    | .ref a :: st => match T.1[a]? with
      | some (.inl q) => x_g (decide (q.1 = .int ∨ q.1 = .boolean ∨ q.1 = .long)) (K lv (.int (Int32.ofNat q.2) :: st) T)
      | _ => none
    | .retAddr a :: st => match XT a with
      | some q => K lv (.int (Int32.ofNat q.1) :: st) T
      | none => none
    | _ => none
  | .invokeinterface ci k => match st with
    | .ref a :: st => match T.1[a]? with
      | some (.inr o) => x_g (Nat.beq o.1 ci) (match o.2[k]? with
        | some none => K lv (.int (T.2.1 a k) :: st) T
        | some (some (d + 1)) => K lv (.ref d :: st) T
        | _ => none)
      | _ => none
    | _ => none
  | .iaload => match st with
    | .int i :: .ref a :: st => match T.1[a]? with
      | some (.inl (.int, n)) => if x_in i n then K lv (.int (T.2.1 a i.toNatClampNeg) :: st) T else none
      | _ => none
    | .int i :: .retAddr a :: st => match XT a with
      | some q => if x_in i q.1 then K lv (.int (q.2 i.toNatClampNeg) :: st) T else none
      | none => none
    | _ => none
  | .baload => match st with
    | .int i :: .ref a :: st => match T.1[a]? with
      | some (.inl (.boolean, n)) => if x_in i n then K lv (.int (T.2.1 a i.toNatClampNeg) :: st) T else none
      | _ => none
    | _ => none
  | .laload => match st with
    | .int i :: .ref a :: st => match T.1[a]? with
      | some (.inl (.long, n)) => if x_in i n then K lv (.long (T.2.2 a i.toNatClampNeg) :: st) T else none
      | _ => none
    | _ => none
  | .iastore => match st with
    | .int x :: .int i :: .ref a :: st => match T.1[a]? with
      | some (.inl (.int, n)) => if x_in i n then K lv st (x_si T a i.toNatClampNeg x) else none
      | _ => none
    | _ => none
  | .bastore => match st with
    | .int x :: .int i :: .ref a :: st => match T.1[a]? with
      | some (.inl (.boolean, n)) => if x_in i n then K lv st (x_si T a i.toNatClampNeg (vp_nar .boolean x)) else none
      | _ => none
    | _ => none
  | .lastore => match st with
    | .long x :: .int i :: .ref a :: st => match T.1[a]? with
      | some (.inl (.long, n)) => if x_in i n then K lv st (x_sl T a i.toNatClampNeg x) else none
      | _ => none
    | _ => none
  | .multianewarray ci k => match st with
    | .int v :: .ref a :: st => match T.1[a]? with
      | some (.inr o) => x_g (Nat.beq o.1 ci && Nat.blt k 2000) (match o.2[x_kk k]? with
        | some none => x_g (Nat.blt k 1000 || decide (v = 0 ∨ v = 1)) (K lv st (x_si T a (x_kk k) v))
        | _ => none)
      | _ => none
    | .ref d :: .ref a :: st => match T.1[a]? with
      | some (.inr o) => x_g (Nat.beq o.1 ci && Nat.ble 2000 k && Nat.blt (x_kk k) o.2.length) (K lv st (x_sr T a ci (x_kk k) o.2 d))
      | _ => none
    | _ => none
  | .newarray ty => match st with
    | .int n :: st => x_g (decide (¬ n < 0 ∧ n.toNatClampNeg ≤ 100000 ∧ (ty = .int ∨ ty = .boolean ∨ ty = .long) ∧ x_okl T.1.length lv ∧ x_oks T.1.length st ∧ x_okT T.1.length T.1)) (K lv (.ref T.1.length :: st) (x_new T (.inl (newarray.typeOf ty, n.toNatClampNeg))))
    | _ => none
  | .invokedynamic 0 => match st with
    | .int y :: .int x :: st => x_g (Nat.ble (x_sm st) 8) (K lv (.int (if x < y then y else x) :: st) T)
    | _ => none
  | .invokedynamic 1 => match st with
    | .int y :: .int x :: st => x_g (Nat.ble (x_sm st) 8) (K lv (.int (if y < x then y else x) :: st) T)
    | _ => none
  | .invokedynamic 2 => match st with
    | .int n :: .int dp :: .ref b :: .int sp :: .ref a :: st => match T.1[a]?, T.1[b]? with
      | some (.inl (.int, na)), some (.inl (.int, nb)) => if x_sm st ≤ 8 ∧ ¬ sp < 0 ∧ ¬ dp < 0 ∧ ¬ n < 0 ∧ sp.toNatClampNeg + n.toNatClampNeg ≤ na ∧ dp.toNatClampNeg + n.toNatClampNeg ≤ nb then K lv st (x_sf T b (va_cpy (T.2.1 a) (T.2.1 b) sp.toNatClampNeg dp.toNatClampNeg n.toNatClampNeg)) else none
      | _, _ => none
    | _ => none
  | _ => none
/-- what follows a call -/
noncomputable def x_bd (o : x_Z) (K : Option Value → x_T → x_Z) : x_Z := Option.rec (motive := fun _ => x_Z) none (fun q => Prod.rec (motive := fun _ => x_Z) (fun v T => K v T) q) o
theorem x_bd_some {o : x_Z} {K : Option Value → x_T → x_Z} {q : Option Value × x_T} (h : x_bd o K = some q) : ∃ v T', o = some (v, T') ∧ K v T' = some q := by
  cases o with
  | none => cases h
  | some p => exact ⟨p.1, p.2, rfl, h⟩
/-- what the machine knows of the classes and methods: the fields of a class, all of ints 0 and references null; of a method how many parameters it has and the class of its receiver; how many slots its frame has; its code -/
abbrev x_E : Type := (Nat → List (Option Nat)) × (Nat → Nat × Nat) × (Nat → Nat) × (Nat → List Instr)
/-- from an instruction on (rest: the code from there), k steps at most, a jump back is B's, a call is O's -/
noncomputable def x_ev (E : x_E) (XT : x_Xt) (O : Nat → List Value → x_T → x_Z) (B : Nat → x_L → x_T → x_Z) (code : List Instr) : Nat → List Instr → x_L → List Value → x_T → x_Z
  | 0, _, _, _, _ => none
  | _ + 1, [], _, _, _ => none
  | k + 1, i :: rest, lv, st, T => match i with
    | .goto j => x_ev E XT O B code k (code.drop j.toNat) lv st T
    | .jsr_w j => match st with
      | [] => B j.toNat lv T
      | _ => none
    | .ifCond c j => match st with
      | .int x :: st => if x_cmp c x 0 then (match j with
        | .ofNat t => x_ev E XT O B code k (code.drop t) lv st T
        | .negSucc t => (match st with
          | [] => B t lv T
          | _ => none)) else x_ev E XT O B code k rest lv st T
      | _ => none
    | .if_icmp c j => match st with
      | .int y :: .int x :: st => if x_cmp c x y then (match j with
        | .ofNat t => x_ev E XT O B code k (code.drop t) lv st T
        | .negSucc t => (match st with
          | [] => B t lv T
          | _ => none)) else x_ev E XT O B code k rest lv st T
      | _ => none
    | .tableswitch d lo _ offs => match st with
      | .int x :: st => x_ev E XT O B code k (code.drop (x_pick lo offs.toList d x).toNat) lv st T
      | _ => none
    | .lookupswitch d ps => match st with
      | .int x :: st => x_ev E XT O B code k (code.drop (Op.lookupswitch.offset ps.toList d x.toInt).toNat) lv st T
      | _ => none
    | .return_ => match st with
      | [] => some (none, T)
      | _ => none
    | .ireturn => match st with
      | [.int v] => some (some (.int v), T)
      | _ => none
    | .areturn => match st with
      | [.int v] => x_g (decide (v = 0 ∨ v = 1)) (some (some (.int v), T))
      | _ => none
    | .lreturn => match st with
      | [.long v] => some (some (.long v), T)
      | _ => none
    | .new ci => x_g (x_okl T.1.length lv && x_oks T.1.length st && x_okT T.1.length T.1) (x_ev E XT O B code k rest lv (.ref T.1.length :: st) (x_new T (.inr (ci, E.1 ci))))
    | .invokevirtual μ => match st.drop (E.2.1 μ).1 with
      | .ref b :: r => match T.1[b]? with
        | some (.inr o) => x_g (Nat.beq o.1 (E.2.1 μ).2 && (Nat.ble (x_sm r) 8 && (x_okl T.1.length lv && x_oks T.1.length r))) (x_bd (O μ (.ref b :: (st.take (E.2.1 μ).1).reverse) T) (fun v T' => x_ev E XT O B code k rest lv (v.toList ++ r) T'))
        | _ => none
      | _ => none
    | .checkcast μ => match st.drop (E.2.1 μ).1 with
      | .retAddr b :: r => x_g (Nat.blt b 2 && (Nat.ble (x_sm r) 8 && (x_okl T.1.length lv && x_oks T.1.length r))) (x_bd (O μ (.retAddr b :: (st.take (E.2.1 μ).1).reverse) T) (fun v T' => x_ev E XT O B code k rest lv (v.toList ++ r) T'))
      | _ => none
    | .invokespecial μ => match st.drop (E.2.1 μ).1 with
      | .ref b :: r => x_g (Nat.ble (x_sm r) 8 && (x_okl T.1.length lv && x_oks T.1.length r)) (x_bd (O μ (.ref b :: (st.take (E.2.1 μ).1).reverse) T) (fun v T' => x_ev E XT O B code k rest lv (v.toList ++ r) T'))
      | _ => none
    | .invokestatic μ => x_g (Nat.ble (x_sm (st.drop (E.2.1 μ).1)) 8 && (Nat.ble (E.2.1 μ).1 st.length && (x_okl T.1.length lv && x_oks T.1.length (st.drop (E.2.1 μ).1)))) (x_bd (O μ (st.take (E.2.1 μ).1).reverse T) (fun v T' => x_ev E XT O B code k rest lv (v.toList ++ st.drop (E.2.1 μ).1) T'))
    | i => x_s1 XT i lv st T (fun lv st T => x_ev E XT O B code k rest lv st T)
/-- a loop's head comes up n times at most -/
noncomputable def x_lp (E : x_E) (XT : x_Xt) (O : Nat → List Value → x_T → x_Z) (code : List Instr) (k : Nat) : Nat → Nat → x_L → x_T → x_Z
  | 0, _, _, _ => none
  | n + 1, j, lv, T => x_ev E XT O (x_lp E XT O code k n) code k (code.drop j) lv [] T
/-- the first locals of a method -/
def x_ar : List Value → x_L
  | [] => []
  | v :: l => if v.category = 2 then some v :: none :: x_ar l else some v :: x_ar l
/-- a method, calls d deep, each loop's head n times at most; from number 1000 on the methods are others' (SO) -/
noncomputable def x_P (E : x_E) (SO : Nat → List Value → x_T → x_Z) (k n : Nat) : Nat → Nat → List Value → x_T → x_Z
  | 0, _, _, _ => none
  | d + 1, μ, vs, T => if Nat.ble 1000 μ then (if Nat.ble 8 d then SO μ vs T else none) else if (x_ar vs).length ≤ E.2.2.1 μ then x_ev E x_nx (x_P E SO k n d) (x_lp E x_nx (x_P E SO k n d) (E.2.2.2 μ) k n) (E.2.2.2 μ) k (E.2.2.2 μ) (x_ar vs ++ List.replicate (E.2.2.1 μ - (x_ar vs).length) none) [] T else none
