/-! ===== bytes of an int ===== -/
theorem bt_255 : ∀ i, i < 32 → 8 ≤ i → (255#32).getLsbD i = false := by decide
theorem bt_aux (x : BitVec 32) (n : Nat) (hn : n ≤ 24) : (x.sshiftRight n) &&& 255#32 = (x >>> n) &&& 255#32 := by
  apply BitVec.eq_of_getLsbD_eq
  intro i hi
  rw [BitVec.getLsbD_and, BitVec.getLsbD_and]
  by_cases h : i < 8
  · rw [BitVec.getLsbD_sshiftRight, BitVec.getLsbD_ushiftRight, if_pos (by omega)]
    simp [show ¬ 32 ≤ i by omega]
  · rw [bt_255 i hi (by omega), Bool.and_false, Bool.and_false]
theorem bt_and {a b : Int32} (h : a &&& Int32.ofInt 255 = b &&& Int32.ofInt 255) : b_and a.toInt 255 = b_and b.toInt 255 := by
  unfold b_and
  rw [Int32.ofInt_toInt, Int32.ofInt_toInt, h]
theorem bt_16 (v : Int) : b_and (b_ushr v 16) 255 = byt v 16 := by
  refine (bt_and ?_).symm
  apply Int32.toBitVec_inj.1
  exact bt_aux (Int32.ofInt v).toBitVec 16 (by decide)
theorem bt_8 (v : Int) : b_and (b_ushr v 8) 255 = byt v 8 := by
  refine (bt_and ?_).symm
  apply Int32.toBitVec_inj.1
  exact bt_aux (Int32.ofInt v).toBitVec 8 (by decide)
theorem bt_24a (v : Int) : b_and (b_ushr v 24) 255 = byt v 24 := by
  refine (bt_and ?_).symm
  apply Int32.toBitVec_inj.1
  exact bt_aux (Int32.ofInt v).toBitVec 24 (by decide)
theorem bt_0 (v : Int) : b_and v 255 = byt v 0 := by
  unfold byt b_and b_shr
  rw [Int32.ofInt_toInt]
  refine congrArg Int32.toInt (Int32.toBitVec_inj.1 ?_)
  show (Int32.ofInt v).toBitVec &&& _ = ((Int32.ofInt v).toBitVec.sshiftRight 0) &&& _
  rw [BitVec.sshiftRight_zero]
theorem bt_24 (v : Int) : b_ushr v 24 = byt v 24 := by
  rw [← bt_24a]
  unfold b_and b_ushr
  rw [Int32.ofInt_toInt]
  refine congrArg Int32.toInt (Int32.toBitVec_inj.1 (BitVec.eq_of_toNat_eq ?_))
  show ((Int32.ofInt v).toBitVec >>> 24).toNat = (((Int32.ofInt v).toBitVec >>> 24) &&& 255#32).toNat
  rw [BitVec.toNat_and, BitVec.toNat_ushiftRight, show (255#32).toNat = 2 ^ 8 - 1 by decide, Nat.and_two_pow_sub_one_eq_mod, Nat.shiftRight_eq_div_pow]
  have := (Int32.ofInt v).toBitVec.isLt
  omega
