theorem x_16 {P : Nat → Prop} {a : Nat} (h0 : P a) (h1 : P (a + 1)) (h2 : P (a + 2)) (h3 : P (a + 3)) (h4 : P (a + 4)) (h5 : P (a + 5)) (h6 : P (a + 6)) (h7 : P (a + 7)) : ∀ j, a ≤ j → j < a + 8 → P j := by
  intro j h k
  rcases (by omega : j = a ∨ j = a + 1 ∨ j = a + 2 ∨ j = a + 3 ∨ j = a + 4 ∨ j = a + 5 ∨ j = a + 6 ∨ j = a + 7) with rfl | rfl | rfl | rfl | rfl | rfl | rfl | rfl <;> assumption
theorem k_m226 : x_mchk 226 = true := by decide +kernel
theorem k_m227 : x_mchk 227 = true := by decide +kernel
theorem k_m228 : x_mchk 228 = true := by decide +kernel
theorem k_m229 : x_mchk 229 = true := by decide +kernel
theorem k_m230 : x_mchk 230 = true := by decide +kernel
theorem k_m231 : x_mchk 231 = true := by decide +kernel
theorem k_b0 : ∀ j, 0 ≤ j → j < 8 → x_mchk j = true := x_16 (a := 0) k_m0 k_m1 k_m2 k_m3 k_m4 k_m5 k_m6 k_m7
theorem k_b1 : ∀ j, 8 ≤ j → j < 16 → x_mchk j = true := x_16 (a := 8) k_m8 k_m9 k_m10 k_m11 k_m12 k_m13 k_m14 k_m15
theorem k_b2 : ∀ j, 16 ≤ j → j < 24 → x_mchk j = true := x_16 (a := 16) k_m16 k_m17 k_m18 k_m19 k_m20 k_m21 k_m22 k_m23
theorem k_b3 : ∀ j, 24 ≤ j → j < 32 → x_mchk j = true := x_16 (a := 24) k_m24 k_m25 k_m26 k_m27 k_m28 k_m29 k_m30 k_m31
theorem k_b4 : ∀ j, 32 ≤ j → j < 40 → x_mchk j = true := x_16 (a := 32) k_m32 k_m33 k_m34 k_m35 k_m36 k_m37 k_m38 k_m39
theorem k_b5 : ∀ j, 40 ≤ j → j < 48 → x_mchk j = true := x_16 (a := 40) k_m40 k_m41 k_m42 k_m43 k_m44 k_m45 k_m46 k_m47
theorem k_b6 : ∀ j, 48 ≤ j → j < 56 → x_mchk j = true := x_16 (a := 48) k_m48 k_m49 k_m50 k_m51 k_m52 k_m53 k_m54 k_m55
theorem k_b7 : ∀ j, 56 ≤ j → j < 64 → x_mchk j = true := x_16 (a := 56) k_m56 k_m57 k_m58 k_m59 k_m60 k_m61 k_m62 k_m63
theorem k_b8 : ∀ j, 64 ≤ j → j < 72 → x_mchk j = true := x_16 (a := 64) k_m64 k_m65 k_m66 k_m67 k_m68 k_m69 k_m70 k_m71
theorem k_b9 : ∀ j, 72 ≤ j → j < 80 → x_mchk j = true := x_16 (a := 72) k_m72 k_m73 k_m74 k_m75 k_m76 k_m77 k_m78 k_m79
theorem k_b10 : ∀ j, 80 ≤ j → j < 88 → x_mchk j = true := x_16 (a := 80) k_m80 k_m81 k_m82 k_m83 k_m84 k_m85 k_m86 k_m87
theorem k_b11 : ∀ j, 88 ≤ j → j < 96 → x_mchk j = true := x_16 (a := 88) k_m88 k_m89 k_m90 k_m91 k_m92 k_m93 k_m94 k_m95
theorem k_b12 : ∀ j, 96 ≤ j → j < 104 → x_mchk j = true := x_16 (a := 96) k_m96 k_m97 k_m98 k_m99 k_m100 k_m101 k_m102 k_m103
theorem k_b13 : ∀ j, 104 ≤ j → j < 112 → x_mchk j = true := x_16 (a := 104) k_m104 k_m105 k_m106 k_m107 k_m108 k_m109 k_m110 k_m111
theorem k_b14 : ∀ j, 112 ≤ j → j < 120 → x_mchk j = true := x_16 (a := 112) k_m112 k_m113 k_m114 k_m115 k_m116 k_m117 k_m118 k_m119
theorem k_b15 : ∀ j, 120 ≤ j → j < 128 → x_mchk j = true := x_16 (a := 120) k_m120 k_m121 k_m122 k_m123 k_m124 k_m125 k_m126 k_m127
theorem k_b16 : ∀ j, 128 ≤ j → j < 136 → x_mchk j = true := x_16 (a := 128) k_m128 k_m129 k_m130 k_m131 k_m132 k_m133 k_m134 k_m135
theorem k_b17 : ∀ j, 136 ≤ j → j < 144 → x_mchk j = true := x_16 (a := 136) k_m136 k_m137 k_m138 k_m139 k_m140 k_m141 k_m142 k_m143
theorem k_b18 : ∀ j, 144 ≤ j → j < 152 → x_mchk j = true := x_16 (a := 144) k_m144 k_m145 k_m146 k_m147 k_m148 k_m149 k_m150 k_m151
theorem k_b19 : ∀ j, 152 ≤ j → j < 160 → x_mchk j = true := x_16 (a := 152) k_m152 k_m153 k_m154 k_m155 k_m156 k_m157 k_m158 k_m159
theorem k_b20 : ∀ j, 160 ≤ j → j < 168 → x_mchk j = true := x_16 (a := 160) k_m160 k_m161 k_m162 k_m163 k_m164 k_m165 k_m166 k_m167
theorem k_b21 : ∀ j, 168 ≤ j → j < 176 → x_mchk j = true := x_16 (a := 168) k_m168 k_m169 k_m170 k_m171 k_m172 k_m173 k_m174 k_m175
theorem k_b22 : ∀ j, 176 ≤ j → j < 184 → x_mchk j = true := x_16 (a := 176) k_m176 k_m177 k_m178 k_m179 k_m180 k_m181 k_m182 k_m183
theorem k_b23 : ∀ j, 184 ≤ j → j < 192 → x_mchk j = true := x_16 (a := 184) k_m184 k_m185 k_m186 k_m187 k_m188 k_m189 k_m190 k_m191
theorem k_b24 : ∀ j, 192 ≤ j → j < 200 → x_mchk j = true := x_16 (a := 192) k_m192 k_m193 k_m194 k_m195 k_m196 k_m197 k_m198 k_m199
theorem k_b25 : ∀ j, 200 ≤ j → j < 208 → x_mchk j = true := x_16 (a := 200) k_m200 k_m201 k_m202 k_m203 k_m204 k_m205 k_m206 k_m207
theorem k_b26 : ∀ j, 208 ≤ j → j < 216 → x_mchk j = true := x_16 (a := 208) k_m208 k_m209 k_m210 k_m211 k_m212 k_m213 k_m214 k_m215
theorem k_b27 : ∀ j, 216 ≤ j → j < 224 → x_mchk j = true := x_16 (a := 216) k_m216 k_m217 k_m218 k_m219 k_m220 k_m221 k_m222 k_m223
theorem k_b28 : ∀ j, 224 ≤ j → j < 232 → x_mchk j = true := x_16 (a := 224) k_m224 k_m225 k_m226 k_m227 k_m228 k_m229 k_m230 k_m231
theorem k_mall : ∀ j, j < 232 → x_mchk j = true := by
  intro j h
  rcases (by omega : (0 ≤ j ∧ j < 8) ∨ (8 ≤ j ∧ j < 16) ∨ (16 ≤ j ∧ j < 24) ∨ (24 ≤ j ∧ j < 32) ∨ (32 ≤ j ∧ j < 40) ∨ (40 ≤ j ∧ j < 48) ∨ (48 ≤ j ∧ j < 56) ∨ (56 ≤ j ∧ j < 64) ∨ (64 ≤ j ∧ j < 72) ∨ (72 ≤ j ∧ j < 80) ∨ (80 ≤ j ∧ j < 88) ∨ (88 ≤ j ∧ j < 96) ∨ (96 ≤ j ∧ j < 104) ∨ (104 ≤ j ∧ j < 112) ∨ (112 ≤ j ∧ j < 120) ∨ (120 ≤ j ∧ j < 128) ∨ (128 ≤ j ∧ j < 136) ∨ (136 ≤ j ∧ j < 144) ∨ (144 ≤ j ∧ j < 152) ∨ (152 ≤ j ∧ j < 160) ∨ (160 ≤ j ∧ j < 168) ∨ (168 ≤ j ∧ j < 176) ∨ (176 ≤ j ∧ j < 184) ∨ (184 ≤ j ∧ j < 192) ∨ (192 ≤ j ∧ j < 200) ∨ (200 ≤ j ∧ j < 208) ∨ (208 ≤ j ∧ j < 216) ∨ (216 ≤ j ∧ j < 224) ∨ (224 ≤ j ∧ j < 232)) with h1 | h1 | h1 | h1 | h1 | h1 | h1 | h1 | h1 | h1 | h1 | h1 | h1 | h1 | h1 | h1 | h1 | h1 | h1 | h1 | h1 | h1 | h1 | h1 | h1 | h1 | h1 | h1 | h1
  · exact k_b0 j h1.1 h1.2
  · exact k_b1 j h1.1 h1.2
  · exact k_b2 j h1.1 h1.2
  · exact k_b3 j h1.1 h1.2
  · exact k_b4 j h1.1 h1.2
  · exact k_b5 j h1.1 h1.2
  · exact k_b6 j h1.1 h1.2
  · exact k_b7 j h1.1 h1.2
  · exact k_b8 j h1.1 h1.2
  · exact k_b9 j h1.1 h1.2
  · exact k_b10 j h1.1 h1.2
  · exact k_b11 j h1.1 h1.2
  · exact k_b12 j h1.1 h1.2
  · exact k_b13 j h1.1 h1.2
  · exact k_b14 j h1.1 h1.2
  · exact k_b15 j h1.1 h1.2
  · exact k_b16 j h1.1 h1.2
  · exact k_b17 j h1.1 h1.2
  · exact k_b18 j h1.1 h1.2
  · exact k_b19 j h1.1 h1.2
  · exact k_b20 j h1.1 h1.2
  · exact k_b21 j h1.1 h1.2
  · exact k_b22 j h1.1 h1.2
  · exact k_b23 j h1.1 h1.2
  · exact k_b24 j h1.1 h1.2
  · exact k_b25 j h1.1 h1.2
  · exact k_b26 j h1.1 h1.2
  · exact k_b27 j h1.1 h1.2
  · exact k_b28 j h1.1 h1.2
theorem k_mno : ∀ j, 226 ≤ j → kTB[j]?.getD [] = [] := by
  intro j h
  rw [List.getElem?_eq_none (Nat.le_trans (by decide +kernel : kTB.length ≤ 226) h)]
  rfl
theorem k_pn : ∀ j, j < 1000 → plainName (x_Mf kML j).1.cls = true := by
  intro j h
  rcases Nat.lt_or_ge j 232 with h1 | h1
  · have h2 := k_mall j h1
    simp only [x_mchk, Bool.and_eq_true] at h2
    exact h2.1.1.1
  · have h3 : ∀ i, i < 768 → plainName (x_Mf kML (232 + i)).1.cls = true := by decide +kernel
    have h4 := h3 (j - 232) (by omega)
    rwa [show 232 + (j - 232) = j by omega] at h4
theorem x_chs {α : Type} {l : List α} {P : α → Prop} : ∀ (m : Nat), l.length ≤ 40 * m → (∀ i, i < m → ∀ r ∈ (l.drop (40 * i)).take 40, P r) → ∀ r ∈ l, P r := by
  intro m hm h r hr
  obtain ⟨j, hj⟩ := List.getElem?_of_mem hr
  have hlt : j < l.length := (List.getElem?_eq_some_iff.mp hj).1
  refine h (j / 40) (by omega) r (List.mem_of_getElem? (i := j % 40) ?_)
  rw [List.getElem?_take_of_lt (by omega), List.getElem?_drop, show 40 * (j / 40) + j % 40 = j by omega]
  exact hj
theorem k_p0 : ∀ r ∈ (kPL.getD 0 ("", [])).2, ∀ w ∈ x_need kCL kX kML (kPL.getD 0 ("", [])).1 r.1 r.2, w ∈ lw_tbl ∧ goodWord w = true := by
  refine x_chs 3 (by decide +kernel) (fun i hi r hr w hw => ?_)
  match i, hi, hr with
  | 0, _, hr => exact k_w0 w (List.mem_flatMap.mpr ⟨r, hr, hw⟩)
  | 1, _, hr => exact k_w1 w (List.mem_flatMap.mpr ⟨r, hr, hw⟩)
  | 2, _, hr => exact k_w2 w (List.mem_flatMap.mpr ⟨r, hr, hw⟩)
  | i + 3, hi, _ => omega
theorem k_p1 : ∀ r ∈ (kPL.getD 1 ("", [])).2, ∀ w ∈ x_need kCL kX kML (kPL.getD 1 ("", [])).1 r.1 r.2, w ∈ lw_tbl ∧ goodWord w = true := by
  refine x_chs 2 (by decide +kernel) (fun i hi r hr w hw => ?_)
  match i, hi, hr with
  | 0, _, hr => exact k_w3 w (List.mem_flatMap.mpr ⟨r, hr, hw⟩)
  | 1, _, hr => exact k_w4 w (List.mem_flatMap.mpr ⟨r, hr, hw⟩)
  | i + 2, hi, _ => omega
theorem k_p2 : ∀ r ∈ (kPL.getD 2 ("", [])).2, ∀ w ∈ x_need kCL kX kML (kPL.getD 2 ("", [])).1 r.1 r.2, w ∈ lw_tbl ∧ goodWord w = true := by
  refine x_chs 1 (by decide +kernel) (fun i hi r hr w hw => ?_)
  match i, hi, hr with
  | 0, _, hr => exact k_w5 w (List.mem_flatMap.mpr ⟨r, hr, hw⟩)
  | i + 1, hi, _ => omega
theorem k_p3 : ∀ r ∈ (kPL.getD 3 ("", [])).2, ∀ w ∈ x_need kCL kX kML (kPL.getD 3 ("", [])).1 r.1 r.2, w ∈ lw_tbl ∧ goodWord w = true := by
  refine x_chs 1 (by decide +kernel) (fun i hi r hr w hw => ?_)
  match i, hi, hr with
  | 0, _, hr => exact k_w6 w (List.mem_flatMap.mpr ⟨r, hr, hw⟩)
  | i + 1, hi, _ => omega
theorem k_p4 : ∀ r ∈ (kPL.getD 4 ("", [])).2, ∀ w ∈ x_need kCL kX kML (kPL.getD 4 ("", [])).1 r.1 r.2, w ∈ lw_tbl ∧ goodWord w = true := by
  refine x_chs 1 (by decide +kernel) (fun i hi r hr w hw => ?_)
  match i, hi, hr with
  | 0, _, hr => exact k_w7 w (List.mem_flatMap.mpr ⟨r, hr, hw⟩)
  | i + 1, hi, _ => omega
theorem k_p5 : ∀ r ∈ (kPL.getD 5 ("", [])).2, ∀ w ∈ x_need kCL kX kML (kPL.getD 5 ("", [])).1 r.1 r.2, w ∈ lw_tbl ∧ goodWord w = true := by
  refine x_chs 1 (by decide +kernel) (fun i hi r hr w hw => ?_)
  match i, hi, hr with
  | 0, _, hr => exact k_w8 w (List.mem_flatMap.mpr ⟨r, hr, hw⟩)
  | i + 1, hi, _ => omega
theorem k_p6 : ∀ r ∈ (kPL.getD 6 ("", [])).2, ∀ w ∈ x_need kCL kX kML (kPL.getD 6 ("", [])).1 r.1 r.2, w ∈ lw_tbl ∧ goodWord w = true := by
  refine x_chs 2 (by decide +kernel) (fun i hi r hr w hw => ?_)
  match i, hi, hr with
  | 0, _, hr => exact k_w9 w (List.mem_flatMap.mpr ⟨r, hr, hw⟩)
  | 1, _, hr => exact k_w10 w (List.mem_flatMap.mpr ⟨r, hr, hw⟩)
  | i + 2, hi, _ => omega
theorem k_p7 : ∀ r ∈ (kPL.getD 7 ("", [])).2, ∀ w ∈ x_need kCL kX kML (kPL.getD 7 ("", [])).1 r.1 r.2, w ∈ lw_tbl ∧ goodWord w = true := by
  refine x_chs 2 (by decide +kernel) (fun i hi r hr w hw => ?_)
  match i, hi, hr with
  | 0, _, hr => exact k_w11 w (List.mem_flatMap.mpr ⟨r, hr, hw⟩)
  | 1, _, hr => exact k_w12 w (List.mem_flatMap.mpr ⟨r, hr, hw⟩)
  | i + 2, hi, _ => omega
theorem k_p8 : ∀ r ∈ (kPL.getD 8 ("", [])).2, ∀ w ∈ x_need kCL kX kML (kPL.getD 8 ("", [])).1 r.1 r.2, w ∈ lw_tbl ∧ goodWord w = true := by
  refine x_chs 2 (by decide +kernel) (fun i hi r hr w hw => ?_)
  match i, hi, hr with
  | 0, _, hr => exact k_w13 w (List.mem_flatMap.mpr ⟨r, hr, hw⟩)
  | 1, _, hr => exact k_w14 w (List.mem_flatMap.mpr ⟨r, hr, hw⟩)
  | i + 2, hi, _ => omega
theorem k_p9 : ∀ r ∈ (kPL.getD 9 ("", [])).2, ∀ w ∈ x_need kCL kX kML (kPL.getD 9 ("", [])).1 r.1 r.2, w ∈ lw_tbl ∧ goodWord w = true := by
  refine x_chs 1 (by decide +kernel) (fun i hi r hr w hw => ?_)
  match i, hi, hr with
  | 0, _, hr => exact k_w15 w (List.mem_flatMap.mpr ⟨r, hr, hw⟩)
  | i + 1, hi, _ => omega
theorem k_p10 : ∀ r ∈ (kPL.getD 10 ("", [])).2, ∀ w ∈ x_need kCL kX kML (kPL.getD 10 ("", [])).1 r.1 r.2, w ∈ lw_tbl ∧ goodWord w = true := by
  refine x_chs 1 (by decide +kernel) (fun i hi r hr w hw => ?_)
  match i, hi, hr with
  | 0, _, hr => exact k_w16 w (List.mem_flatMap.mpr ⟨r, hr, hw⟩)
  | i + 1, hi, _ => omega
theorem k_p11 : ∀ r ∈ (kPL.getD 11 ("", [])).2, ∀ w ∈ x_need kCL kX kML (kPL.getD 11 ("", [])).1 r.1 r.2, w ∈ lw_tbl ∧ goodWord w = true := by
  refine x_chs 1 (by decide +kernel) (fun i hi r hr w hw => ?_)
  match i, hi, hr with
  | 0, _, hr => exact k_w17 w (List.mem_flatMap.mpr ⟨r, hr, hw⟩)
  | i + 1, hi, _ => omega
theorem k_p12 : ∀ r ∈ (kPL.getD 12 ("", [])).2, ∀ w ∈ x_need kCL kX kML (kPL.getD 12 ("", [])).1 r.1 r.2, w ∈ lw_tbl ∧ goodWord w = true := by
  refine x_chs 3 (by decide +kernel) (fun i hi r hr w hw => ?_)
  match i, hi, hr with
  | 0, _, hr => exact k_w18 w (List.mem_flatMap.mpr ⟨r, hr, hw⟩)
  | 1, _, hr => exact k_w19 w (List.mem_flatMap.mpr ⟨r, hr, hw⟩)
  | 2, _, hr => exact k_w20 w (List.mem_flatMap.mpr ⟨r, hr, hw⟩)
  | i + 3, hi, _ => omega
theorem k_pool : ∀ q ∈ kPL, ∀ r ∈ q.2, ∀ w ∈ x_need kCL kX kML q.1 r.1 r.2, w ∈ lw_tbl ∧ goodWord w = true := by
  intro q hq
  obtain ⟨j, hj⟩ := List.getElem?_of_mem hq
  have hlt : j < 13 := (List.getElem?_eq_some_iff.mp hj).1
  have e : q = kPL.getD j ("", []) := by rw [List.getD, hj]; rfl
  subst e
  match j, hlt with
  | 0, _ => exact k_p0
  | 1, _ => exact k_p1
  | 2, _ => exact k_p2
  | 3, _ => exact k_p3
  | 4, _ => exact k_p4
  | 5, _ => exact k_p5
  | 6, _ => exact k_p6
  | 7, _ => exact k_p7
  | 8, _ => exact k_p8
  | 9, _ => exact k_p9
  | 10, _ => exact k_p10
  | 11, _ => exact k_p11
  | 12, _ => exact k_p12
  | j + 13, hlt => omega
theorem k_codes : ∀ μ ∈ kMU, Cond.code (x_Mf kML μ).1 (x_Mf kML μ).2.1 (x_Mf kML μ).2.2.1 (x_Mf kML μ).2.2.2 ∈ lw_tbl := by
  have h8 : ∀ j, j < 226 → j ≠ 87 → Cond.code (x_Mf kML j).1 (x_Mf kML j).2.1 (x_Mf kML j).2.2.1 (x_Mf kML j).2.2.2 ∈ lw_tbl := by
    intro j h hne
    match j, h, hne with
    | 0, _, hne => exact List.mem_of_getElem? k_c0
    | 1, _, hne => exact List.mem_of_getElem? k_c1
    | 2, _, hne => exact List.mem_of_getElem? k_c2
    | 3, _, hne => exact List.mem_of_getElem? k_c3
    | 4, _, hne => exact List.mem_of_getElem? k_c4
    | 5, _, hne => exact List.mem_of_getElem? k_c5
    | 6, _, hne => exact List.mem_of_getElem? k_c6
    | 7, _, hne => exact List.mem_of_getElem? k_c7
    | 8, _, hne => exact List.mem_of_getElem? k_c8
    | 9, _, hne => exact List.mem_of_getElem? k_c9
    | 10, _, hne => exact List.mem_of_getElem? k_c10
    | 11, _, hne => exact List.mem_of_getElem? k_c11
    | 12, _, hne => exact List.mem_of_getElem? k_c12
    | 13, _, hne => exact List.mem_of_getElem? k_c13
    | 14, _, hne => exact List.mem_of_getElem? k_c14
    | 15, _, hne => exact List.mem_of_getElem? k_c15
    | 16, _, hne => exact List.mem_of_getElem? k_c16
    | 17, _, hne => exact List.mem_of_getElem? k_c17
    | 18, _, hne => exact List.mem_of_getElem? k_c18
    | 19, _, hne => exact List.mem_of_getElem? k_c19
    | 20, _, hne => exact List.mem_of_getElem? k_c20
    | 21, _, hne => exact List.mem_of_getElem? k_c21
    | 22, _, hne => exact List.mem_of_getElem? k_c22
    | 23, _, hne => exact List.mem_of_getElem? k_c23
    | 24, _, hne => exact List.mem_of_getElem? k_c24
    | 25, _, hne => exact List.mem_of_getElem? k_c25
    | 26, _, hne => exact List.mem_of_getElem? k_c26
    | 27, _, hne => exact List.mem_of_getElem? k_c27
    | 28, _, hne => exact List.mem_of_getElem? k_c28
    | 29, _, hne => exact List.mem_of_getElem? k_c29
    | 30, _, hne => exact List.mem_of_getElem? k_c30
    | 31, _, hne => exact List.mem_of_getElem? k_c31
    | 32, _, hne => exact List.mem_of_getElem? k_c32
    | 33, _, hne => exact List.mem_of_getElem? k_c33
    | 34, _, hne => exact List.mem_of_getElem? k_c34
    | 35, _, hne => exact List.mem_of_getElem? k_c35
    | 36, _, hne => exact List.mem_of_getElem? k_c36
    | 37, _, hne => exact List.mem_of_getElem? k_c37
    | 38, _, hne => exact List.mem_of_getElem? k_c38
    | 39, _, hne => exact List.mem_of_getElem? k_c39
    | 40, _, hne => exact List.mem_of_getElem? k_c40
    | 41, _, hne => exact List.mem_of_getElem? k_c41
    | 42, _, hne => exact List.mem_of_getElem? k_c42
    | 43, _, hne => exact List.mem_of_getElem? k_c43
    | 44, _, hne => exact List.mem_of_getElem? k_c44
    | 45, _, hne => exact List.mem_of_getElem? k_c45
    | 46, _, hne => exact List.mem_of_getElem? k_c46
    | 47, _, hne => exact List.mem_of_getElem? k_c47
    | 48, _, hne => exact List.mem_of_getElem? k_c48
    | 49, _, hne => exact List.mem_of_getElem? k_c49
    | 50, _, hne => exact List.mem_of_getElem? k_c50
    | 51, _, hne => exact List.mem_of_getElem? k_c51
    | 52, _, hne => exact List.mem_of_getElem? k_c52
    | 53, _, hne => exact List.mem_of_getElem? k_c53
    | 54, _, hne => exact List.mem_of_getElem? k_c54
    | 55, _, hne => exact List.mem_of_getElem? k_c55
    | 56, _, hne => exact List.mem_of_getElem? k_c56
    | 57, _, hne => exact List.mem_of_getElem? k_c57
    | 58, _, hne => exact List.mem_of_getElem? k_c58
    | 59, _, hne => exact List.mem_of_getElem? k_c59
    | 60, _, hne => exact List.mem_of_getElem? k_c60
    | 61, _, hne => exact List.mem_of_getElem? k_c61
    | 62, _, hne => exact List.mem_of_getElem? k_c62
    | 63, _, hne => exact List.mem_of_getElem? k_c63
    | 64, _, hne => exact List.mem_of_getElem? k_c64
    | 65, _, hne => exact List.mem_of_getElem? k_c65
    | 66, _, hne => exact List.mem_of_getElem? k_c66
    | 67, _, hne => exact List.mem_of_getElem? k_c67
    | 68, _, hne => exact List.mem_of_getElem? k_c68
    | 69, _, hne => exact List.mem_of_getElem? k_c69
    | 70, _, hne => exact List.mem_of_getElem? k_c70
    | 71, _, hne => exact List.mem_of_getElem? k_c71
    | 72, _, hne => exact List.mem_of_getElem? k_c72
    | 73, _, hne => exact List.mem_of_getElem? k_c73
    | 74, _, hne => exact List.mem_of_getElem? k_c74
    | 75, _, hne => exact List.mem_of_getElem? k_c75
    | 76, _, hne => exact List.mem_of_getElem? k_c76
    | 77, _, hne => exact List.mem_of_getElem? k_c77
    | 78, _, hne => exact List.mem_of_getElem? k_c78
    | 79, _, hne => exact List.mem_of_getElem? k_c79
    | 80, _, hne => exact List.mem_of_getElem? k_c80
    | 81, _, hne => exact List.mem_of_getElem? k_c81
    | 82, _, hne => exact List.mem_of_getElem? k_c82
    | 83, _, hne => exact List.mem_of_getElem? k_c83
    | 84, _, hne => exact List.mem_of_getElem? k_c84
    | 85, _, hne => exact List.mem_of_getElem? k_c85
    | 86, _, hne => exact List.mem_of_getElem? k_c86
    | 87, _, hne => exact absurd rfl hne
    | 88, _, hne => exact List.mem_of_getElem? k_c88
    | 89, _, hne => exact List.mem_of_getElem? k_c89
    | 90, _, hne => exact List.mem_of_getElem? k_c90
    | 91, _, hne => exact List.mem_of_getElem? k_c91
    | 92, _, hne => exact List.mem_of_getElem? k_c92
    | 93, _, hne => exact List.mem_of_getElem? k_c93
    | 94, _, hne => exact List.mem_of_getElem? k_c94
    | 95, _, hne => exact List.mem_of_getElem? k_c95
    | 96, _, hne => exact List.mem_of_getElem? k_c96
    | 97, _, hne => exact List.mem_of_getElem? k_c97
    | 98, _, hne => exact List.mem_of_getElem? k_c98
    | 99, _, hne => exact List.mem_of_getElem? k_c99
    | 100, _, hne => exact List.mem_of_getElem? k_c100
    | 101, _, hne => exact List.mem_of_getElem? k_c101
    | 102, _, hne => exact List.mem_of_getElem? k_c102
    | 103, _, hne => exact List.mem_of_getElem? k_c103
    | 104, _, hne => exact List.mem_of_getElem? k_c104
    | 105, _, hne => exact List.mem_of_getElem? k_c105
    | 106, _, hne => exact List.mem_of_getElem? k_c106
    | 107, _, hne => exact List.mem_of_getElem? k_c107
    | 108, _, hne => exact List.mem_of_getElem? k_c108
    | 109, _, hne => exact List.mem_of_getElem? k_c109
    | 110, _, hne => exact List.mem_of_getElem? k_c110
    | 111, _, hne => exact List.mem_of_getElem? k_c111
    | 112, _, hne => exact List.mem_of_getElem? k_c112
    | 113, _, hne => exact List.mem_of_getElem? k_c113
    | 114, _, hne => exact List.mem_of_getElem? k_c114
    | 115, _, hne => exact List.mem_of_getElem? k_c115
    | 116, _, hne => exact List.mem_of_getElem? k_c116
    | 117, _, hne => exact List.mem_of_getElem? k_c117
    | 118, _, hne => exact List.mem_of_getElem? k_c118
    | 119, _, hne => exact List.mem_of_getElem? k_c119
    | 120, _, hne => exact List.mem_of_getElem? k_c120
    | 121, _, hne => exact List.mem_of_getElem? k_c121
    | 122, _, hne => exact List.mem_of_getElem? k_c122
    | 123, _, hne => exact List.mem_of_getElem? k_c123
    | 124, _, hne => exact List.mem_of_getElem? k_c124
    | 125, _, hne => exact List.mem_of_getElem? k_c125
    | 126, _, hne => exact List.mem_of_getElem? k_c126
    | 127, _, hne => exact List.mem_of_getElem? k_c127
    | 128, _, hne => exact List.mem_of_getElem? k_c128
    | 129, _, hne => exact List.mem_of_getElem? k_c129
    | 130, _, hne => exact List.mem_of_getElem? k_c130
    | 131, _, hne => exact List.mem_of_getElem? k_c131
    | 132, _, hne => exact List.mem_of_getElem? k_c132
    | 133, _, hne => exact List.mem_of_getElem? k_c133
    | 134, _, hne => exact List.mem_of_getElem? k_c134
    | 135, _, hne => exact List.mem_of_getElem? k_c135
    | 136, _, hne => exact List.mem_of_getElem? k_c136
    | 137, _, hne => exact List.mem_of_getElem? k_c137
    | 138, _, hne => exact List.mem_of_getElem? k_c138
    | 139, _, hne => exact List.mem_of_getElem? k_c139
    | 140, _, hne => exact List.mem_of_getElem? k_c140
    | 141, _, hne => exact List.mem_of_getElem? k_c141
    | 142, _, hne => exact List.mem_of_getElem? k_c142
    | 143, _, hne => exact List.mem_of_getElem? k_c143
    | 144, _, hne => exact List.mem_of_getElem? k_c144
    | 145, _, hne => exact List.mem_of_getElem? k_c145
    | 146, _, hne => exact List.mem_of_getElem? k_c146
    | 147, _, hne => exact List.mem_of_getElem? k_c147
    | 148, _, hne => exact List.mem_of_getElem? k_c148
    | 149, _, hne => exact List.mem_of_getElem? k_c149
    | 150, _, hne => exact List.mem_of_getElem? k_c150
    | 151, _, hne => exact List.mem_of_getElem? k_c151
    | 152, _, hne => exact List.mem_of_getElem? k_c152
    | 153, _, hne => exact List.mem_of_getElem? k_c153
    | 154, _, hne => exact List.mem_of_getElem? k_c154
    | 155, _, hne => exact List.mem_of_getElem? k_c155
    | 156, _, hne => exact List.mem_of_getElem? k_c156
    | 157, _, hne => exact List.mem_of_getElem? k_c157
    | 158, _, hne => exact List.mem_of_getElem? k_c158
    | 159, _, hne => exact List.mem_of_getElem? k_c159
    | 160, _, hne => exact List.mem_of_getElem? k_c160
    | 161, _, hne => exact List.mem_of_getElem? k_c161
    | 162, _, hne => exact List.mem_of_getElem? k_c162
    | 163, _, hne => exact List.mem_of_getElem? k_c163
    | 164, _, hne => exact List.mem_of_getElem? k_c164
    | 165, _, hne => exact List.mem_of_getElem? k_c165
    | 166, _, hne => exact List.mem_of_getElem? k_c166
    | 167, _, hne => exact List.mem_of_getElem? k_c167
    | 168, _, hne => exact List.mem_of_getElem? k_c168
    | 169, _, hne => exact List.mem_of_getElem? k_c169
    | 170, _, hne => exact List.mem_of_getElem? k_c170
    | 171, _, hne => exact List.mem_of_getElem? k_c171
    | 172, _, hne => exact List.mem_of_getElem? k_c172
    | 173, _, hne => exact List.mem_of_getElem? k_c173
    | 174, _, hne => exact List.mem_of_getElem? k_c174
    | 175, _, hne => exact List.mem_of_getElem? k_c175
    | 176, _, hne => exact List.mem_of_getElem? k_c176
    | 177, _, hne => exact List.mem_of_getElem? k_c177
    | 178, _, hne => exact List.mem_of_getElem? k_c178
    | 179, _, hne => exact List.mem_of_getElem? k_c179
    | 180, _, hne => exact List.mem_of_getElem? k_c180
    | 181, _, hne => exact List.mem_of_getElem? k_c181
    | 182, _, hne => exact List.mem_of_getElem? k_c182
    | 183, _, hne => exact List.mem_of_getElem? k_c183
    | 184, _, hne => exact List.mem_of_getElem? k_c184
    | 185, _, hne => exact List.mem_of_getElem? k_c185
    | 186, _, hne => exact List.mem_of_getElem? k_c186
    | 187, _, hne => exact List.mem_of_getElem? k_c187
    | 188, _, hne => exact List.mem_of_getElem? k_c188
    | 189, _, hne => exact List.mem_of_getElem? k_c189
    | 190, _, hne => exact List.mem_of_getElem? k_c190
    | 191, _, hne => exact List.mem_of_getElem? k_c191
    | 192, _, hne => exact List.mem_of_getElem? k_c192
    | 193, _, hne => exact List.mem_of_getElem? k_c193
    | 194, _, hne => exact List.mem_of_getElem? k_c194
    | 195, _, hne => exact List.mem_of_getElem? k_c195
    | 196, _, hne => exact List.mem_of_getElem? k_c196
    | 197, _, hne => exact List.mem_of_getElem? k_c197
    | 198, _, hne => exact List.mem_of_getElem? k_c198
    | 199, _, hne => exact List.mem_of_getElem? k_c199
    | 200, _, hne => exact List.mem_of_getElem? k_c200
    | 201, _, hne => exact List.mem_of_getElem? k_c201
    | 202, _, hne => exact List.mem_of_getElem? k_c202
    | 203, _, hne => exact List.mem_of_getElem? k_c203
    | 204, _, hne => exact List.mem_of_getElem? k_c204
    | 205, _, hne => exact List.mem_of_getElem? k_c205
    | 206, _, hne => exact List.mem_of_getElem? k_c206
    | 207, _, hne => exact List.mem_of_getElem? k_c207
    | 208, _, hne => exact List.mem_of_getElem? k_c208
    | 209, _, hne => exact List.mem_of_getElem? k_c209
    | 210, _, hne => exact List.mem_of_getElem? k_c210
    | 211, _, hne => exact List.mem_of_getElem? k_c211
    | 212, _, hne => exact List.mem_of_getElem? k_c212
    | 213, _, hne => exact List.mem_of_getElem? k_c213
    | 214, _, hne => exact List.mem_of_getElem? k_c214
    | 215, _, hne => exact List.mem_of_getElem? k_c215
    | 216, _, hne => exact List.mem_of_getElem? k_c216
    | 217, _, hne => exact List.mem_of_getElem? k_c217
    | 218, _, hne => exact List.mem_of_getElem? k_c218
    | 219, _, hne => exact List.mem_of_getElem? k_c219
    | 220, _, hne => exact List.mem_of_getElem? k_c220
    | 221, _, hne => exact List.mem_of_getElem? k_c221
    | 222, _, hne => exact List.mem_of_getElem? k_c222
    | 223, _, hne => exact List.mem_of_getElem? k_c223
    | 224, _, hne => exact List.mem_of_getElem? k_c224
    | 225, _, hne => exact List.mem_of_getElem? k_c225
    | j + 226, h, _ => omega
  intro μ hμ
  rcases List.mem_append.mp hμ with h | h
  · obtain ⟨h1, h2⟩ := List.mem_filter.mp h
    exact h8 μ (List.mem_range.mp h1) (by simpa using h2)
  · simp only [List.mem_cons, List.not_mem_nil, or_false] at h
    rcases h with rfl | rfl | rfl
    · exact List.mem_of_getElem? k_c1000
    · exact List.mem_of_getElem? k_c1001
    · exact List.mem_of_getElem? k_c1002
/-! more words do no harm -/
theorem x_mk_mono {Ts Ts' : List Cond} {E : x_E} {M : x_M} {μ : Nat} (h : ∀ w ∈ Ts, w ∈ Ts') (hk : x_mk Ts E M μ) : x_mk Ts' E M μ := ⟨h _ hk.1, h _ hk.2.1, hk.2.2⟩
theorem x_l2_mono {Ts Ts' : List Cond} {E : x_E} {M : x_M} {X : x_X} {own : String} {cl : List vw_C} {ix : Nat} {i : Instr} (h : ∀ w ∈ Ts, w ∈ Ts') (hk : x_l2 Ts E M X own cl ix i) : x_l2 Ts' E M X own cl ix i := by
  cases i with
  | new ci => obtain ⟨C, T, N, ty0, h1, h2, h3, h4, h5, h6, h7⟩ := hk; exact ⟨C, T, N, ty0, h1, fun w hw => h _ (h2 w hw), h3, h _ h4, h _ h5, h _ h6, h7⟩
  | invokevirtual μ => obtain ⟨h1, h2, h3, h4, h5⟩ := hk; exact ⟨x_mk_mono h h1, h2.imp (h _) id, h _ h3, h _ h4, h5⟩
  | invokestatic μ => obtain ⟨h1, h2, h3⟩ := hk; exact ⟨x_mk_mono h h1, h2.imp (h _) id, h _ h3⟩
  | invokespecial μ => obtain ⟨h1, h2, h3, h4⟩ := hk; exact ⟨x_mk_mono h h1, h2.imp (h _) id, h _ h3, h4⟩
  | checkcast μ => obtain ⟨h1, h2, h3, h4, h5⟩ := hk; exact ⟨x_mk_mono h h1, h _ h2, h _ h3, h _ h4, h5⟩
  | _ => trivial
theorem x_lk_mono {Ts Ts' : List Cond} {own : String} {cl : List vw_C} {sad : Nat → Nat} {s : State} {ix : Nat} {i : Instr} (h : ∀ w ∈ Ts, w ∈ Ts') (hk : x_lk Ts own cl sad s ix i) : x_lk Ts' own cl sad s ix i := by
  cases i with
  | iconst v => exact h _ hk
  | jsr v => exact h _ hk
  | ldc j => exact hk
  | invokeinterface ci k => obtain ⟨C, T, N, h1, h2, h3, h4⟩ := hk; exact ⟨C, T, N, h1, h2, fun w hw => h _ (h3 w hw), h4.imp (h _) id⟩
  | pop => exact ⟨h _ hk.1, h _ hk.2.1, h _ hk.2.2⟩
  | invokedynamic n =>
    match n, hk with
    | 0, hk => exact ⟨h _ hk.1, h _ hk.2.1, h _ hk.2.2.1, h _ hk.2.2.2⟩
    | 1, hk => exact ⟨h _ hk.1, h _ hk.2.1, h _ hk.2.2.1, h _ hk.2.2.2⟩
    | 2, hk => exact ⟨h _ hk.1, h _ hk.2.1, h _ hk.2.2.1, h _ hk.2.2.2⟩
    | n + 3, _ => trivial
  | _ => trivial
theorem x_pk_mono {Ts Ts' : List Cond} {own : String} {cl : List vw_C} {s : State} {meth : Method} {ix : Nat} {i : Instr} (h : ∀ w ∈ Ts, w ∈ Ts') (hk : x_pk Ts own cl s meth ix i) : x_pk Ts' own cl s meth ix i := by
  cases i with
  | multianewarray ci k => obtain ⟨C, T, N, ty0, h1, h2, h3, h4, h5, h6, h7⟩ := hk; exact ⟨C, T, N, ty0, h1, h2, fun w hw => h _ (h3 w hw), h4, h5, h6, h7.imp (fun g => ⟨g.1.imp (h _) id, g.2⟩) (fun g => ⟨h _ g.1, g.2⟩)⟩
  | _ => trivial
theorem x_ok_mono {cl : List vw_C} {E : x_E} {X : x_X} {Ts Ts' : List Cond} {M : x_M} {F Gp : Nat → Nat → Option Instr} {tb : Nat → x_R} {μ : Nat} (h : ∀ w ∈ Ts, w ∈ Ts') (hk : x_ok cl E X Ts M F Gp tb μ) : x_ok cl E X Ts' M F Gp tb μ := by
  obtain ⟨h1, h2, h3, h4, h5, h6, h7, h8⟩ := hk
  exact ⟨h1, h2, h3, h4, h5, fun ix i hi => x_l2_mono h (h6 ix i hi), fun ix i hi sad s hs => x_lk_mono h (h7 ix i hi sad s hs), fun ix i hi s meth hm => x_pk_mono h (h8 ix i hi s meth hm)⟩
/-- the words that the walks use -/
def kTa : List Cond := x_all kMU kCL kX kML kPL
theorem k_words0 : ∀ w ∈ kTa, w ∈ lw_tbl ∧ goodWord w = true := by
  intro w hw
  unfold kTa x_all at hw
  rcases List.mem_append.mp hw with hw | hw
  · rcases List.mem_append.mp hw with hw | hw
    · rcases List.mem_append.mp hw with hw | hw
      · exact k_wA w hw
      · obtain ⟨μ, hμ, hw⟩ := List.mem_flatMap.mp hw
        simp only [x_nm, List.mem_cons, List.not_mem_nil, or_false] at hw
        rcases hw with rfl | rfl
        · exact ⟨k_codes μ hμ, rfl⟩
        · exact k_wI _ (List.mem_map.mpr ⟨μ, hμ, rfl⟩)
    · exact k_wB w hw
  · obtain ⟨q, hq, hw⟩ := List.mem_flatMap.mp hw
    obtain ⟨r, hr, hw⟩ := List.mem_flatMap.mp hw
    exact k_pool q hq r hr w hw
/-- with the words of the texts' own methods -/
def kTs : List Cond := kTa ++ kJ
theorem k_words : ∀ w ∈ kTs, w ∈ lw_tbl ∧ goodWord w = true := fun w hw => (List.mem_append.mp hw).elim (k_words0 w) (k_wJa w)
/-- EVERY METHOD of this claim is as its table says -/
theorem k_ok : ∀ μ, μ < 1000 → x_ok (x_cl kCL) (x_Ef kCL kML kTB) kX kTs (x_Mf kML) (x_Ff kPL kML) (x_Gf kCL kPL kML) (fun μ => kTB[μ]?.getD []) μ := by
  intro μ h
  refine x_ok_mono (Ts := kTa) (fun w hw => List.mem_append_left _ hw) ?_
  have hck : ∀ q ∈ kPL, ∀ r ∈ q.2, x_chk kMU kCL kX kML q.1 r.1 r.2 = true := fun q hq r hr => List.all_eq_true.mp (List.all_eq_true.mp k_chk q hq) r hr
  rcases Nat.lt_or_ge μ 232 with h1 | h1
  · have h2 := k_mall μ h1
    simp only [x_mchk, Bool.and_eq_true, decide_eq_true_eq] at h2
    exact x_ok_of k_clk hck h2.1.1.1 h2.1.1.2 h2.1.2 h2.2
  · have e := k_mno μ (by omega)
    exact x_ok_of k_clk hck (k_pn μ h) (by rw [e]; rfl) (by rw [e]; rfl) (by rw [e]; rfl)
/-- what a method answers, out of its table: x_P's answer is what the machine does -/
theorem k_sound {l : Launch} {SO : Nat → List Value → x_T → x_Z} (hSO : ∀ μ vs T q, SO μ vs T = some q → x_mo T q.2 ∧ ∀ d, 8 ≤ d → x_C l (x_cl kCL) kX kTs (x_Mf kML) (d + 1) μ vs T q) (k n d μ : Nat) (vs : List Value) (T : x_T) (q : Option Value × x_T) (h : x_P kE SO k n d μ vs T = some q) : x_C l (x_cl kCL) kX kTs (x_Mf kML) d μ vs T q :=
  x_P_ok k_ok hSO (fun w hw => (k_words w hw).2) ⟨List.mem_append_left _ (by simp [kTa, x_all]), List.mem_append_left _ (by simp [kTa, x_all]), List.mem_append_left _ (by simp [kTa, x_all])⟩ k n d μ vs T q h
