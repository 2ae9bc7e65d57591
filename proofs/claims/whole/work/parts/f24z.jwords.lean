/-! ===== the words of the texts' own methods ===== -/
abbrev RJ0 : String := "java/lang/String"
abbrev RJ1 : String := "java/lang/StringLatin1"
abbrev RJ3 : String := "jdk/internal/util/Preconditions"
abbrev yJ0_length_8abf5 : MethodName := ⟨RJ0, "length", "()I"⟩
abbrev cJ0_length_8abf5 : ByteArray := prog_16_method_54_code
abbrev yJ0_charAt_5068e : MethodName := ⟨RJ0, "charAt", "(I)C"⟩
abbrev cJ0_charAt_5068e : ByteArray := prog_16_method_56_code
abbrev yJ0_indexOf_0f7a4 : MethodName := ⟨RJ0, "indexOf", "(I)I"⟩
abbrev cJ0_indexOf_0f7a4 : ByteArray := prog_16_method_79_code
abbrev yJ0_indexOf_7cf53 : MethodName := ⟨RJ0, "indexOf", "(II)I"⟩
abbrev cJ0_indexOf_7cf53 : ByteArray := prog_16_method_80_code
abbrev yJ0_coder_7d493 : MethodName := ⟨RJ0, "coder", "()B"⟩
abbrev cJ0_coder_7d493 : ByteArray := prog_16_method_152_code
abbrev yJ0_isLatin1_aae02 : MethodName := ⟨RJ0, "isLatin1", "()Z"⟩
abbrev cJ0_isLatin1_aae02 : ByteArray := prog_16_method_154_code
abbrev yJ0_checkIndex_df160 : MethodName := ⟨RJ0, "checkIndex", "(II)V"⟩
abbrev cJ0_checkIndex_df160 : ByteArray := prog_16_method_155_code
abbrev yJ1_charAt_3b067 : MethodName := ⟨RJ1, "charAt", "([BI)C"⟩
abbrev cJ1_charAt_3b067 : ByteArray := prog_17_method_2_code
abbrev yJ1_canEncode_9a6ad : MethodName := ⟨RJ1, "canEncode", "(I)Z"⟩
abbrev cJ1_canEncode_9a6ad : ByteArray := prog_17_method_4_code
abbrev yJ1_indexOf_4cfef : MethodName := ⟨RJ1, "indexOf", "([BIII)I"⟩
abbrev cJ1_indexOf_4cfef : ByteArray := prog_17_method_22_code
abbrev yJ1_indexOfChar_4cfef : MethodName := ⟨RJ1, "indexOfChar", "([BIII)I"⟩
abbrev cJ1_indexOfChar_4cfef : ByteArray := prog_17_method_23_code
abbrev yJ3_checkIndex_8e157 : MethodName := ⟨RJ3, "checkIndex", "(IILjava/util/function/BiFunction;)I"⟩
abbrev cJ3_checkIndex_8e157 : ByteArray := prog_21_method_11_code
def kJw : List Cond := [.initialized RJ0, .initialized RJ1, .initialized RJ3, .initialized "java/lang/Math", .fieldLink RJ0 9 "java/lang/String" "value" "[B", .fieldLink RJ0 38 "java/lang/String" "COMPACT_STRINGS" "Z", .fieldLink RJ0 15 "java/lang/String" "coder" "B", .fieldLink RJ0 1053 "jdk/internal/util/Preconditions" "SIOOBE_FORMATTER" "Ljava/util/function/BiFunction;", .methodLink RJ0 335 yJ0_coder_7d493, .methodLink RJ0 492 yJ0_isLatin1_aae02, .methodLink RJ0 495 yJ1_charAt_3b067, .methodLink RJ0 505 yJ0_length_8abf5, .methodLink RJ0 637 yJ1_indexOf_4cfef, .methodLink RJ0 633 yJ0_indexOf_7cf53, .methodLink RJ0 1059 yJ3_checkIndex_8e157, .methodLink RJ1 9 yJ0_checkIndex_df160, .methodLink RJ1 92 Lib.Math.max.name, .methodLink RJ1 38 Lib.Math.min.name, .methodLink RJ1 88 yJ1_canEncode_9a6ad, .methodLink RJ1 95 yJ1_indexOfChar_4cfef, .instanceMethod yJ0_coder_7d493, .selects RJ0 yJ0_coder_7d493 yJ0_coder_7d493, .instanceMethod yJ0_isLatin1_aae02, .selects RJ0 yJ0_isLatin1_aae02 yJ0_isLatin1_aae02, .instanceMethod yJ0_length_8abf5, .selects RJ0 yJ0_length_8abf5 yJ0_length_8abf5, .instanceMethod yJ0_indexOf_7cf53, .selects RJ0 yJ0_indexOf_7cf53 yJ0_indexOf_7cf53, .static yJ1_charAt_3b067, .static yJ1_indexOf_4cfef, .static yJ3_checkIndex_8e157, .static yJ0_checkIndex_df160, .static Lib.Math.max.name, .static Lib.Math.min.name, .static yJ1_canEncode_9a6ad, .static yJ1_indexOfChar_4cfef]
set_option maxRecDepth 100000 in
theorem k_wJ : ∀ w ∈ kJw, w ∈ lw_tbl ∧ goodWord w = true := x_by [111, 112, 113, 100, 1697, 640, 1698, 660, 636, 650, 654, 693, 694, 689, 662, 657, 700, 701, 697, 704, 637, 638, 651, 652, 633, 634, 690, 691, 655, 695, 663, 658, 138, 702, 698, 705] (by decide +kernel) (by decide +kernel)
set_option maxRecDepth 100000 in
theorem k_cJ0 : lw_tbl[635]? = some (.code yJ0_length_8abf5 cJ0_length_8abf5 1 (some .int)) := by rfl
set_option maxRecDepth 100000 in
theorem k_cJ1 : lw_tbl[649]? = some (.code yJ0_charAt_5068e cJ0_charAt_5068e 2 (some .char)) := by rfl
set_option maxRecDepth 100000 in
theorem k_cJ2 : lw_tbl[688]? = some (.code yJ0_indexOf_0f7a4 cJ0_indexOf_0f7a4 2 (some .int)) := by rfl
set_option maxRecDepth 100000 in
theorem k_cJ3 : lw_tbl[692]? = some (.code yJ0_indexOf_7cf53 cJ0_indexOf_7cf53 3 (some .int)) := by rfl
set_option maxRecDepth 100000 in
theorem k_cJ4 : lw_tbl[639]? = some (.code yJ0_coder_7d493 cJ0_coder_7d493 1 (some .byte)) := by rfl
set_option maxRecDepth 100000 in
theorem k_cJ5 : lw_tbl[653]? = some (.code yJ0_isLatin1_aae02 cJ0_isLatin1_aae02 1 (some .boolean)) := by rfl
set_option maxRecDepth 100000 in
theorem k_cJ6 : lw_tbl[659]? = some (.code yJ0_checkIndex_df160 cJ0_checkIndex_df160 2 none) := by rfl
set_option maxRecDepth 100000 in
theorem k_cJ7 : lw_tbl[656]? = some (.code yJ1_charAt_3b067 cJ1_charAt_3b067 2 (some .char)) := by rfl
set_option maxRecDepth 100000 in
theorem k_cJ8 : lw_tbl[699]? = some (.code yJ1_canEncode_9a6ad cJ1_canEncode_9a6ad 1 (some .boolean)) := by rfl
set_option maxRecDepth 100000 in
theorem k_cJ9 : lw_tbl[696]? = some (.code yJ1_indexOf_4cfef cJ1_indexOf_4cfef 4 (some .int)) := by rfl
set_option maxRecDepth 100000 in
theorem k_cJ10 : lw_tbl[706]? = some (.code yJ1_indexOfChar_4cfef cJ1_indexOfChar_4cfef 6 (some .int)) := by rfl
set_option maxRecDepth 100000 in
theorem k_cJ11 : lw_tbl[664]? = some (.code yJ3_checkIndex_8e157 cJ3_checkIndex_8e157 3 (some .int)) := by rfl
set_option maxRecDepth 100000 in
theorem k_cJ12 : lw_tbl[139]? = some (.code Lib.Math.max.name Lib.Math.max.code 2 (some .int)) := by rfl
set_option maxRecDepth 100000 in
theorem k_cJ13 : lw_tbl[703]? = some (.code Lib.Math.min.name Lib.Math.min.code 2 (some .int)) := by rfl
def kJc : List Cond := [.code yJ0_length_8abf5 cJ0_length_8abf5 1 (some .int), .code yJ0_charAt_5068e cJ0_charAt_5068e 2 (some .char), .code yJ0_indexOf_0f7a4 cJ0_indexOf_0f7a4 2 (some .int), .code yJ0_indexOf_7cf53 cJ0_indexOf_7cf53 3 (some .int), .code yJ0_coder_7d493 cJ0_coder_7d493 1 (some .byte), .code yJ0_isLatin1_aae02 cJ0_isLatin1_aae02 1 (some .boolean), .code yJ0_checkIndex_df160 cJ0_checkIndex_df160 2 none, .code yJ1_charAt_3b067 cJ1_charAt_3b067 2 (some .char), .code yJ1_canEncode_9a6ad cJ1_canEncode_9a6ad 1 (some .boolean), .code yJ1_indexOf_4cfef cJ1_indexOf_4cfef 4 (some .int), .code yJ1_indexOfChar_4cfef cJ1_indexOfChar_4cfef 6 (some .int), .code yJ3_checkIndex_8e157 cJ3_checkIndex_8e157 3 (some .int), .code Lib.Math.max.name Lib.Math.max.code 2 (some .int), .code Lib.Math.min.name Lib.Math.min.code 2 (some .int)]
theorem k_wJc : ∀ w ∈ kJc, w ∈ lw_tbl ∧ goodWord w = true := by
  intro w hw
  simp only [kJc, List.mem_cons, List.not_mem_nil, or_false] at hw
  rcases hw with rfl | rfl | rfl | rfl | rfl | rfl | rfl | rfl | rfl | rfl | rfl | rfl | rfl | rfl
  · exact ⟨List.mem_of_getElem? k_cJ0, rfl⟩
  · exact ⟨List.mem_of_getElem? k_cJ1, rfl⟩
  · exact ⟨List.mem_of_getElem? k_cJ2, rfl⟩
  · exact ⟨List.mem_of_getElem? k_cJ3, rfl⟩
  · exact ⟨List.mem_of_getElem? k_cJ4, rfl⟩
  · exact ⟨List.mem_of_getElem? k_cJ5, rfl⟩
  · exact ⟨List.mem_of_getElem? k_cJ6, rfl⟩
  · exact ⟨List.mem_of_getElem? k_cJ7, rfl⟩
  · exact ⟨List.mem_of_getElem? k_cJ8, rfl⟩
  · exact ⟨List.mem_of_getElem? k_cJ9, rfl⟩
  · exact ⟨List.mem_of_getElem? k_cJ10, rfl⟩
  · exact ⟨List.mem_of_getElem? k_cJ11, rfl⟩
  · exact ⟨List.mem_of_getElem? k_cJ12, rfl⟩
  · exact ⟨List.mem_of_getElem? k_cJ13, rfl⟩
def kJ : List Cond := kJc ++ kJw
theorem k_wJa : ∀ w ∈ kJ, w ∈ lw_tbl ∧ goodWord w = true := fun w hw => (List.mem_append.mp hw).elim (k_wJc w) (k_wJ w)
