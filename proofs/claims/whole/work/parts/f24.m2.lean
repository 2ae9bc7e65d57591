theorem k_m65 : x_mchk 65 = true := by decide +kernel
theorem k_m66 : x_mchk 66 = true := by decide +kernel
theorem k_m67 : x_mchk 67 = true := by decide +kernel
theorem k_m68 : x_mchk 68 = true := by decide +kernel
theorem k_m69 : x_mchk 69 = true := by decide +kernel
theorem k_m70 : x_mchk 70 = true := by decide +kernel
theorem k_m71 : x_mchk 71 = true := by decide +kernel
theorem k_m72 : x_mchk 72 = true := by decide +kernel
theorem k_m73 : x_mchk 73 = true := by decide +kernel
theorem k_m74 : x_mchk 74 = true := by decide +kernel
theorem k_m75 : x_mchk 75 = true := by decide +kernel
theorem k_m76 : x_mchk 76 = true := by decide +kernel
theorem k_m77 : x_mchk 77 = true := by decide +kernel
theorem k_m78 : x_mchk 78 = true := by decide +kernel
theorem k_m79 : x_mchk 79 = true := by decide +kernel
theorem k_m80 : x_mchk 80 = true := by decide +kernel
theorem k_m81 : x_mchk 81 = true := by decide +kernel
theorem k_m82 : x_mchk 82 = true := by decide +kernel
theorem k_m83 : x_mchk 83 = true := by decide +kernel
theorem k_m84 : x_mchk 84 = true := by decide +kernel
theorem k_m85 : x_mchk 85 = true := by decide +kernel
theorem k_m86 : x_mchk 86 = true := by decide +kernel
theorem k_m87_t0 : (List.range 40).all (fun i => x_t1 (x_Ff kPL kML 87) (x_Gf kCL kPL kML 87) (x_Mf kML 87).2.2.2 (kTB[87]?.getD []) (0 + i)) = true := by decide +kernel
theorem k_m87_d0 : x_dck (x_Mf kML 87).2.1 (((kTB[87]?.getD []).drop 0).take 40) = true := by decide +kernel
theorem k_m87_t1 : (List.range 40).all (fun i => x_t1 (x_Ff kPL kML 87) (x_Gf kCL kPL kML 87) (x_Mf kML 87).2.2.2 (kTB[87]?.getD []) (40 + i)) = true := by decide +kernel
theorem k_m87_d1 : x_dck (x_Mf kML 87).2.1 (((kTB[87]?.getD []).drop 40).take 40) = true := by decide +kernel
theorem k_m87_t2 : (List.range 40).all (fun i => x_t1 (x_Ff kPL kML 87) (x_Gf kCL kPL kML 87) (x_Mf kML 87).2.2.2 (kTB[87]?.getD []) (80 + i)) = true := by decide +kernel
theorem k_m87_d2 : x_dck (x_Mf kML 87).2.1 (((kTB[87]?.getD []).drop 80).take 40) = true := by decide +kernel
theorem k_m87_t3 : (List.range 40).all (fun i => x_t1 (x_Ff kPL kML 87) (x_Gf kCL kPL kML 87) (x_Mf kML 87).2.2.2 (kTB[87]?.getD []) (120 + i)) = true := by decide +kernel
theorem k_m87_d3 : x_dck (x_Mf kML 87).2.1 (((kTB[87]?.getD []).drop 120).take 40) = true := by decide +kernel
theorem k_m87_t4 : (List.range 40).all (fun i => x_t1 (x_Ff kPL kML 87) (x_Gf kCL kPL kML 87) (x_Mf kML 87).2.2.2 (kTB[87]?.getD []) (160 + i)) = true := by decide +kernel
theorem k_m87_d4 : x_dck (x_Mf kML 87).2.1 (((kTB[87]?.getD []).drop 160).take 40) = true := by decide +kernel
theorem k_m87_t5 : (List.range 40).all (fun i => x_t1 (x_Ff kPL kML 87) (x_Gf kCL kPL kML 87) (x_Mf kML 87).2.2.2 (kTB[87]?.getD []) (200 + i)) = true := by decide +kernel
theorem k_m87_d5 : x_dck (x_Mf kML 87).2.1 (((kTB[87]?.getD []).drop 200).take 40) = true := by decide +kernel
theorem k_m87_t6 : (List.range 40).all (fun i => x_t1 (x_Ff kPL kML 87) (x_Gf kCL kPL kML 87) (x_Mf kML 87).2.2.2 (kTB[87]?.getD []) (240 + i)) = true := by decide +kernel
theorem k_m87_d6 : x_dck (x_Mf kML 87).2.1 (((kTB[87]?.getD []).drop 240).take 40) = true := by decide +kernel
theorem k_m87_t7 : (List.range 40).all (fun i => x_t1 (x_Ff kPL kML 87) (x_Gf kCL kPL kML 87) (x_Mf kML 87).2.2.2 (kTB[87]?.getD []) (280 + i)) = true := by decide +kernel
theorem k_m87_d7 : x_dck (x_Mf kML 87).2.1 (((kTB[87]?.getD []).drop 280).take 40) = true := by decide +kernel
theorem k_m87_t8 : (List.range 40).all (fun i => x_t1 (x_Ff kPL kML 87) (x_Gf kCL kPL kML 87) (x_Mf kML 87).2.2.2 (kTB[87]?.getD []) (320 + i)) = true := by decide +kernel
theorem k_m87_d8 : x_dck (x_Mf kML 87).2.1 (((kTB[87]?.getD []).drop 320).take 40) = true := by decide +kernel
theorem k_m87_t9 : (List.range 40).all (fun i => x_t1 (x_Ff kPL kML 87) (x_Gf kCL kPL kML 87) (x_Mf kML 87).2.2.2 (kTB[87]?.getD []) (360 + i)) = true := by decide +kernel
theorem k_m87_d9 : x_dck (x_Mf kML 87).2.1 (((kTB[87]?.getD []).drop 360).take 40) = true := by decide +kernel
theorem k_m87_t10 : (List.range 40).all (fun i => x_t1 (x_Ff kPL kML 87) (x_Gf kCL kPL kML 87) (x_Mf kML 87).2.2.2 (kTB[87]?.getD []) (400 + i)) = true := by decide +kernel
theorem k_m87_d10 : x_dck (x_Mf kML 87).2.1 (((kTB[87]?.getD []).drop 400).take 40) = true := by decide +kernel
theorem k_m87_t11 : (List.range 40).all (fun i => x_t1 (x_Ff kPL kML 87) (x_Gf kCL kPL kML 87) (x_Mf kML 87).2.2.2 (kTB[87]?.getD []) (440 + i)) = true := by decide +kernel
theorem k_m87_d11 : x_dck (x_Mf kML 87).2.1 (((kTB[87]?.getD []).drop 440).take 40) = true := by decide +kernel
theorem k_m87_t12 : (List.range 40).all (fun i => x_t1 (x_Ff kPL kML 87) (x_Gf kCL kPL kML 87) (x_Mf kML 87).2.2.2 (kTB[87]?.getD []) (480 + i)) = true := by decide +kernel
theorem k_m87_d12 : x_dck (x_Mf kML 87).2.1 (((kTB[87]?.getD []).drop 480).take 40) = true := by decide +kernel
theorem k_m87_t13 : (List.range 40).all (fun i => x_t1 (x_Ff kPL kML 87) (x_Gf kCL kPL kML 87) (x_Mf kML 87).2.2.2 (kTB[87]?.getD []) (520 + i)) = true := by decide +kernel
theorem k_m87_d13 : x_dck (x_Mf kML 87).2.1 (((kTB[87]?.getD []).drop 520).take 40) = true := by decide +kernel
theorem k_m87_l : (kTB[87]?.getD []).length = 533 := by decide +kernel
theorem k_m87_t : x_tck (x_Ff kPL kML 87) (x_Gf kCL kPL kML 87) (x_Mf kML 87).2.2.2 (kTB[87]?.getD []) = true := by
  refine x_tck_by (fun j hj => ?_)
  rw [k_m87_l] at hj
  rcases (by omega : (0 ≤ j ∧ j < 0 + 40) ∨ (40 ≤ j ∧ j < 40 + 40) ∨ (80 ≤ j ∧ j < 80 + 40) ∨ (120 ≤ j ∧ j < 120 + 40) ∨ (160 ≤ j ∧ j < 160 + 40) ∨ (200 ≤ j ∧ j < 200 + 40) ∨ (240 ≤ j ∧ j < 240 + 40) ∨ (280 ≤ j ∧ j < 280 + 40) ∨ (320 ≤ j ∧ j < 320 + 40) ∨ (360 ≤ j ∧ j < 360 + 40) ∨ (400 ≤ j ∧ j < 400 + 40) ∨ (440 ≤ j ∧ j < 440 + 40) ∨ (480 ≤ j ∧ j < 480 + 40) ∨ (520 ≤ j ∧ j < 520 + 40)) with h1 | h1 | h1 | h1 | h1 | h1 | h1 | h1 | h1 | h1 | h1 | h1 | h1 | h1
  · exact x_rg 0 k_m87_t0 j h1.1 h1.2
  · exact x_rg 40 k_m87_t1 j h1.1 h1.2
  · exact x_rg 80 k_m87_t2 j h1.1 h1.2
  · exact x_rg 120 k_m87_t3 j h1.1 h1.2
  · exact x_rg 160 k_m87_t4 j h1.1 h1.2
  · exact x_rg 200 k_m87_t5 j h1.1 h1.2
  · exact x_rg 240 k_m87_t6 j h1.1 h1.2
  · exact x_rg 280 k_m87_t7 j h1.1 h1.2
  · exact x_rg 320 k_m87_t8 j h1.1 h1.2
  · exact x_rg 360 k_m87_t9 j h1.1 h1.2
  · exact x_rg 400 k_m87_t10 j h1.1 h1.2
  · exact x_rg 440 k_m87_t11 j h1.1 h1.2
  · exact x_rg 480 k_m87_t12 j h1.1 h1.2
  · exact x_rg 520 k_m87_t13 j h1.1 h1.2
theorem k_m87_d : x_dck (x_Mf kML 87).2.1 (kTB[87]?.getD []) = true := by
  refine x_dck_by 14 (by rw [k_m87_l]; decide) (fun i hi => ?_)
  match i, hi with
  | 0, _ => exact k_m87_d0
  | 1, _ => exact k_m87_d1
  | 2, _ => exact k_m87_d2
  | 3, _ => exact k_m87_d3
  | 4, _ => exact k_m87_d4
  | 5, _ => exact k_m87_d5
  | 6, _ => exact k_m87_d6
  | 7, _ => exact k_m87_d7
  | 8, _ => exact k_m87_d8
  | 9, _ => exact k_m87_d9
  | 10, _ => exact k_m87_d10
  | 11, _ => exact k_m87_d11
  | 12, _ => exact k_m87_d12
  | 13, _ => exact k_m87_d13
  | i + 14, hi => omega
theorem k_m87 : x_mchk 87 = true := by
  simp only [x_mchk, Bool.and_eq_true]
  exact ⟨⟨⟨by decide +kernel, k_m87_t⟩, k_m87_d⟩, by decide +kernel⟩
