def x_mchk (μ : Nat) : Bool := plainName (x_Mf kML μ).1.cls && x_tck (x_Ff kPL kML μ) (x_Gf kCL kPL kML μ) (x_Mf kML μ).2.2.2 (kTB[μ]?.getD []) && x_dck (x_Mf kML μ).2.1 (kTB[μ]?.getD []) && decide (x_pc (kTB[μ]?.getD []) 0 = 0)
/-- one row's check -/
def x_t1 (F Gp : Nat → Option Instr) (ret : Option FieldType) (tab : x_R) (j : Nat) : Bool := match tab[j]? with
  | some r => x_rv F Gp ret (x_pc tab) r.1 r.2.1 r.2.2.1 r.2.2.2 && (decide (tab.length ≤ j + 1) || decide (x_pc tab (j + 1) = r.1 + r.2.2.1))
  | none => true
theorem x_tck_by {F Gp : Nat → Option Instr} {ret : Option FieldType} {tab : x_R} (h : ∀ j, j < tab.length → x_t1 F Gp ret tab j = true) : x_tck F Gp ret tab = true := List.all_eq_true.mpr (fun j hj => h j (List.mem_range.mp hj))
theorem x_dck_by {cc : ByteArray} {tab : x_R} (m : Nat) (hm : tab.length ≤ 40 * m) (h : ∀ i, i < m → x_dck cc ((tab.drop (40 * i)).take 40) = true) : x_dck cc tab = true := by
  refine List.all_eq_true.mpr (fun r hr => ?_)
  obtain ⟨j, hj⟩ := List.getElem?_of_mem hr
  have hlt : j < tab.length := (List.getElem?_eq_some_iff.mp hj).1
  refine List.all_eq_true.mp (h (j / 40) (by omega)) r (List.mem_of_getElem? (i := j % 40) ?_)
  rw [List.getElem?_take_of_lt (by omega), List.getElem?_drop, show 40 * (j / 40) + j % 40 = j by omega]
  exact hj
theorem x_rg {P : Nat → Bool} (a : Nat) (h : (List.range 40).all (fun i => P (a + i)) = true) : ∀ j, a ≤ j → j < a + 40 → P j = true := by
  intro j h1 h2
  have := List.all_eq_true.mp h (j - a) (List.mem_range.mpr (by omega))
  simpa [show a + (j - a) = j by omega] using this
theorem k_m0_t0 : (List.range 40).all (fun i => x_t1 (x_Ff kPL kML 0) (x_Gf kCL kPL kML 0) (x_Mf kML 0).2.2.2 (kTB[0]?.getD []) (0 + i)) = true := by decide +kernel
theorem k_m0_d0 : x_dck (x_Mf kML 0).2.1 (((kTB[0]?.getD []).drop 0).take 40) = true := by decide +kernel
theorem k_m0_t1 : (List.range 40).all (fun i => x_t1 (x_Ff kPL kML 0) (x_Gf kCL kPL kML 0) (x_Mf kML 0).2.2.2 (kTB[0]?.getD []) (40 + i)) = true := by decide +kernel
theorem k_m0_d1 : x_dck (x_Mf kML 0).2.1 (((kTB[0]?.getD []).drop 40).take 40) = true := by decide +kernel
theorem k_m0_t2 : (List.range 40).all (fun i => x_t1 (x_Ff kPL kML 0) (x_Gf kCL kPL kML 0) (x_Mf kML 0).2.2.2 (kTB[0]?.getD []) (80 + i)) = true := by decide +kernel
theorem k_m0_d2 : x_dck (x_Mf kML 0).2.1 (((kTB[0]?.getD []).drop 80).take 40) = true := by decide +kernel
theorem k_m0_t3 : (List.range 40).all (fun i => x_t1 (x_Ff kPL kML 0) (x_Gf kCL kPL kML 0) (x_Mf kML 0).2.2.2 (kTB[0]?.getD []) (120 + i)) = true := by decide +kernel
theorem k_m0_d3 : x_dck (x_Mf kML 0).2.1 (((kTB[0]?.getD []).drop 120).take 40) = true := by decide +kernel
theorem k_m0_t4 : (List.range 40).all (fun i => x_t1 (x_Ff kPL kML 0) (x_Gf kCL kPL kML 0) (x_Mf kML 0).2.2.2 (kTB[0]?.getD []) (160 + i)) = true := by decide +kernel
theorem k_m0_d4 : x_dck (x_Mf kML 0).2.1 (((kTB[0]?.getD []).drop 160).take 40) = true := by decide +kernel
theorem k_m0_t5 : (List.range 40).all (fun i => x_t1 (x_Ff kPL kML 0) (x_Gf kCL kPL kML 0) (x_Mf kML 0).2.2.2 (kTB[0]?.getD []) (200 + i)) = true := by decide +kernel
theorem k_m0_d5 : x_dck (x_Mf kML 0).2.1 (((kTB[0]?.getD []).drop 200).take 40) = true := by decide +kernel
theorem k_m0_t6 : (List.range 40).all (fun i => x_t1 (x_Ff kPL kML 0) (x_Gf kCL kPL kML 0) (x_Mf kML 0).2.2.2 (kTB[0]?.getD []) (240 + i)) = true := by decide +kernel
theorem k_m0_d6 : x_dck (x_Mf kML 0).2.1 (((kTB[0]?.getD []).drop 240).take 40) = true := by decide +kernel
theorem k_m0_t7 : (List.range 40).all (fun i => x_t1 (x_Ff kPL kML 0) (x_Gf kCL kPL kML 0) (x_Mf kML 0).2.2.2 (kTB[0]?.getD []) (280 + i)) = true := by decide +kernel
theorem k_m0_d7 : x_dck (x_Mf kML 0).2.1 (((kTB[0]?.getD []).drop 280).take 40) = true := by decide +kernel
theorem k_m0_t8 : (List.range 40).all (fun i => x_t1 (x_Ff kPL kML 0) (x_Gf kCL kPL kML 0) (x_Mf kML 0).2.2.2 (kTB[0]?.getD []) (320 + i)) = true := by decide +kernel
theorem k_m0_d8 : x_dck (x_Mf kML 0).2.1 (((kTB[0]?.getD []).drop 320).take 40) = true := by decide +kernel
theorem k_m0_t9 : (List.range 40).all (fun i => x_t1 (x_Ff kPL kML 0) (x_Gf kCL kPL kML 0) (x_Mf kML 0).2.2.2 (kTB[0]?.getD []) (360 + i)) = true := by decide +kernel
theorem k_m0_d9 : x_dck (x_Mf kML 0).2.1 (((kTB[0]?.getD []).drop 360).take 40) = true := by decide +kernel
theorem k_m0_l : (kTB[0]?.getD []).length = 386 := by decide +kernel
theorem k_m0_t : x_tck (x_Ff kPL kML 0) (x_Gf kCL kPL kML 0) (x_Mf kML 0).2.2.2 (kTB[0]?.getD []) = true := by
  refine x_tck_by (fun j hj => ?_)
  rw [k_m0_l] at hj
  rcases (by omega : (0 ≤ j ∧ j < 0 + 40) ∨ (40 ≤ j ∧ j < 40 + 40) ∨ (80 ≤ j ∧ j < 80 + 40) ∨ (120 ≤ j ∧ j < 120 + 40) ∨ (160 ≤ j ∧ j < 160 + 40) ∨ (200 ≤ j ∧ j < 200 + 40) ∨ (240 ≤ j ∧ j < 240 + 40) ∨ (280 ≤ j ∧ j < 280 + 40) ∨ (320 ≤ j ∧ j < 320 + 40) ∨ (360 ≤ j ∧ j < 360 + 40)) with h1 | h1 | h1 | h1 | h1 | h1 | h1 | h1 | h1 | h1
  · exact x_rg 0 k_m0_t0 j h1.1 h1.2
  · exact x_rg 40 k_m0_t1 j h1.1 h1.2
  · exact x_rg 80 k_m0_t2 j h1.1 h1.2
  · exact x_rg 120 k_m0_t3 j h1.1 h1.2
  · exact x_rg 160 k_m0_t4 j h1.1 h1.2
  · exact x_rg 200 k_m0_t5 j h1.1 h1.2
  · exact x_rg 240 k_m0_t6 j h1.1 h1.2
  · exact x_rg 280 k_m0_t7 j h1.1 h1.2
  · exact x_rg 320 k_m0_t8 j h1.1 h1.2
  · exact x_rg 360 k_m0_t9 j h1.1 h1.2
theorem k_m0_d : x_dck (x_Mf kML 0).2.1 (kTB[0]?.getD []) = true := by
  refine x_dck_by 10 (by rw [k_m0_l]; decide) (fun i hi => ?_)
  match i, hi with
  | 0, _ => exact k_m0_d0
  | 1, _ => exact k_m0_d1
  | 2, _ => exact k_m0_d2
  | 3, _ => exact k_m0_d3
  | 4, _ => exact k_m0_d4
  | 5, _ => exact k_m0_d5
  | 6, _ => exact k_m0_d6
  | 7, _ => exact k_m0_d7
  | 8, _ => exact k_m0_d8
  | 9, _ => exact k_m0_d9
  | i + 10, hi => omega
theorem k_m0 : x_mchk 0 = true := by
  simp only [x_mchk, Bool.and_eq_true]
  exact ⟨⟨⟨by decide +kernel, k_m0_t⟩, k_m0_d⟩, by decide +kernel⟩
theorem k_m1 : x_mchk 1 = true := by decide +kernel
theorem k_m2 : x_mchk 2 = true := by decide +kernel
theorem k_m3 : x_mchk 3 = true := by decide +kernel
theorem k_m4 : x_mchk 4 = true := by decide +kernel
theorem k_m5 : x_mchk 5 = true := by decide +kernel
theorem k_m6 : x_mchk 6 = true := by decide +kernel
theorem k_m7 : x_mchk 7 = true := by decide +kernel
theorem k_m8 : x_mchk 8 = true := by decide +kernel
theorem k_m9 : x_mchk 9 = true := by decide +kernel
theorem k_m10 : x_mchk 10 = true := by decide +kernel
theorem k_m11 : x_mchk 11 = true := by decide +kernel
theorem k_m12 : x_mchk 12 = true := by decide +kernel
theorem k_m13 : x_mchk 13 = true := by decide +kernel
theorem k_m14 : x_mchk 14 = true := by decide +kernel
theorem k_m15 : x_mchk 15 = true := by decide +kernel
theorem k_m16 : x_mchk 16 = true := by decide +kernel
theorem k_m17 : x_mchk 17 = true := by decide +kernel
theorem k_m18 : x_mchk 18 = true := by decide +kernel
theorem k_m19 : x_mchk 19 = true := by decide +kernel
theorem k_m20 : x_mchk 20 = true := by decide +kernel
theorem k_m21 : x_mchk 21 = true := by decide +kernel
theorem k_m22 : x_mchk 22 = true := by decide +kernel
theorem k_m23 : x_mchk 23 = true := by decide +kernel
theorem k_m24 : x_mchk 24 = true := by decide +kernel
theorem k_m25 : x_mchk 25 = true := by decide +kernel
theorem k_m26 : x_mchk 26 = true := by decide +kernel
theorem k_m27 : x_mchk 27 = true := by decide +kernel
theorem k_m28 : x_mchk 28 = true := by decide +kernel
theorem k_m29 : x_mchk 29 = true := by decide +kernel
theorem k_m30 : x_mchk 30 = true := by decide +kernel
theorem k_m31 : x_mchk 31 = true := by decide +kernel
theorem k_m32 : x_mchk 32 = true := by decide +kernel
theorem k_m33 : x_mchk 33 = true := by decide +kernel
theorem k_m34 : x_mchk 34 = true := by decide +kernel
